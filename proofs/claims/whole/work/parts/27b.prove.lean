set_option maxHeartbeats 4000000 in
set_option maxRecDepth 100000 in
/-- Claim.prove -/
theorem kX0_prove (l : Launch) {D : va_G} {cy ad : Nat → Nat} {n : Nat} {M : Mm} {A : Nat → Prop} {qc ks bB : Nat} {v mo : Int32} (hD : ∀ M, va_D A (wd cy ad n M ++ [(qc, .inr (0, [.ref (ad ks), .int v, .int (nI bB), .int mo]))])) (hkr : isKR cy ad ks 6) (hks : ks < n) (hks1 : ks + 1 < n) {z : Nat} (hz : M ks 1 = nI z) (hz6 : z ≤ 6) {kg : Nat} (hsg : isSg cy ad kg) (hkg : kg < n) (hkg1 : kg + 1 < n) (hk0 : ks ≠ kg) (hk1 : ks ≠ kg + 1) (hk2 : ks + 1 ≠ kg) (hk3 : ks + 1 ≠ kg + 1) {p0 sn : Nat} (hy : ∀ i, i < z → eltN (vN (M (ks + 1) i)) = true) (hB : bB < 2027) (hp0 : p0 < z) (hsn : sn < 1013) : Met l yX0_prove wsX0_prove ({ frames := 3, cells := 0, slots := 0, locals := 72 }) (va_Pc [.ref qc, .int (nI p0), .int (nI sn), .ref (ad kg)] (RW D cy (wd cy ad n M ++ [(qc, .inr (0, [.ref (ad ks), .int v, .int (nI bB), .int mo]))]) A)) (va_Qv (S := Mm) (fun u => pvE z (M (ks + 1)) v mo bB sn p0 kg M u) (fun u t => va_P D vwCl (wd cy ad n u ++ [(qc, .inr (0, [.ref (ad ks), .int v, .int (nI bB), .int mo]))]) t.heap) A) 0 0 A := by
  refine Met.ofW (cc := cX0_prove) (maxL := 11) (ret := none) (by decide +kernel) rfl ?_
  intro p e s m args below meth c s₁ B hml hv
  obtain ⟨rfl, hP, hE, hA⟩ := hv
  have hx := B.exec
  have hb := B.bytes
  have hr := B.returns
  have hts := atoms_spec (ws := wsX0_prove) B.pre
  have hown : s.vm.findClass RX0 = some m.cls := findClass_of_methodNamed B.named
  have hlocks := B.notSynchronized
  have hf19 : (Cond.fieldLink RX0 19 "RingPetition$Claim" "topicBase" "I").before #[.ref qc, .int (nI p0), .int (nI sn), .ref (ad kg)] s = true := hts _ (by decide +kernel)
  have hf30 : (Cond.fieldLinkNest RX0 30 "RingPetition$KeyRow" "size" "I" "RingPetition").before #[.ref qc, .int (nI p0), .int (nI sn), .ref (ad kg)] s = true := va_Nw.use rfl (hE.2 _ (List.mem_of_getElem? (i := 2) rfl))
  have hf37 : (Cond.fieldLinkNest RX0 37 "RingPetition$Signature" "numbers" "[I" "RingPetition").before #[.ref qc, .int (nI p0), .int (nI sn), .ref (ad kg)] s = true := va_Nw.use rfl (hE.2 _ (List.mem_of_getElem? (i := 5) rfl))
  have hf45 : (Cond.fieldLinkNest RX0 45 "RingPetition$KeyRow" "keys" "[I" "RingPetition").before #[.ref qc, .int (nI p0), .int (nI sn), .ref (ad kg)] s = true := va_Nw.use rfl (hE.2 _ (List.mem_of_getElem? (i := 0) rfl))
  have hf9 : (Cond.fieldLink RX0 9 "RingPetition$Claim" "signers" "LRingPetition$KeyRow;").before #[.ref qc, .int (nI p0), .int (nI sn), .ref (ad kg)] s = true := hts _ (by decide +kernel)
  have hin_RX0 : ∀ w ∈ u_ws RX0 TX0 4, w ∈ wsX0_prove := by decide +kernel
  have hin_RX1 : ∀ w ∈ u_ws RX1 TX1 2, w ∈ wsX0_prove := by decide +kernel
  have hin_RX3 : ∀ w ∈ u_ws RX3 TX3 4, w ∈ wsX0_prove := by decide +kernel
  have hS : va_S A s.heap s.heap [] := va_S.rf
  have hl := lv_entry ([.ref qc, .int (nI p0), .int (nI sn), .ref (ad kg)]) (n := 11) (Nat.le_of_ble_eq_true rfl)
  rw [lg_entry_eq]
  generalize (lg_sl ([.ref qc, .int (nI p0), .int (nI sn), .ref (ad kg)]) ++ List.replicate (11 - (lg_sl ([.ref qc, .int (nI p0), .int (nI sn), .ref (ad kg)])).length) Slot.unset).toArray = ls at hl ⊢
  have hl : lv_has ls 11 [(0, .ref qc), (1, .int (nI p0)), (2, .int (nI sn)), (3, .ref (ad kg))] := hl
  refine lv_aload_n hx hb dX0_prove_0 rfl (lv_at hl 0 rfl) ?_
  refine va_get (D := D) (ci := 0) (v := .int (nI bB)) (C := RX0) (T := TX0) (N := 4) hx hb hts hin_RX0 hown hE.1 hP n wd_ex rfl 2 (by decide) hf19 (fun _ h9 => h9) rfl dX0_prove_1 ?_
  refine lv_iload_n hx hb dX0_prove_4 rfl (lv_at hl 2 rfl) ?_
  refine vp_callSi (W.runS (As := [.int (nI bB), .int (nI sn)]) (rest := []) ⟨hx, hb, hml, hown, hts⟩ (kX2_power l (b := bB) (e0 := sn) hB (by omega)) (va_cwS 2 hts gX0_prove_X2_power rfl rfl rfl (by decide +kernel) ⟨Nat.le_of_ble_eq_true rfl, Nat.le_of_ble_eq_true rfl⟩) pu_ps rfl rfl hl.1 rfl (lv_room (Nat.le_of_ble_eq_true rfl)) dX0_prove_5 ⟨Nat.le_of_ble_eq_true rfl, Nat.le_of_ble_eq_true rfl⟩) (fun r_5 hr_5 => ?_)
  subst hr_5
  refine lv_istore (lv' := [(4, .int (nI (bB ^ sn % 2027))), (0, .ref qc), (1, .int (nI p0)), (2, .int (nI sn)), (3, .ref (ad kg))]) hx hb dX0_prove_8 hl (by decide) rfl (fun ls hl => ?_)
  refine lv_aload_n hx hb dX0_prove_10 rfl (lv_at hl 1 rfl) ?_
  refine lv_iload hx hb dX0_prove_11 (lv_at hl 0 rfl) ?_
  refine vp_callSi (W.runV (As := [.int (nI (bB ^ sn % 2027))]) (rest := []) ⟨hx, hb, hml, hown, hts⟩ (kX0_stem l hkr hks hks1 hz hz6) (cwV 1 hts gX0_prove_X0_stem rfl rfl rfl (by decide +kernel) ⟨Nat.le_of_ble_eq_true rfl, Nat.le_of_ble_eq_true rfl⟩) (ro_pv (ci := 0) (q := (RX0, TX0, 4)) hE hP rfl wd_ex) rfl rfl hl.1 rfl (lv_room (Nat.le_of_ble_eq_true rfl)) dX0_prove_13 ⟨Nat.le_of_ble_eq_true rfl, Nat.le_of_ble_eq_true rfl⟩) (fun r_13 hr_13 => ?_)
  subst hr_13
  refine lv_istore (lv' := [(5, .int (stmI z (M (ks + 1)) v mo (nI (bB ^ sn % 2027)))), (4, .int (nI (bB ^ sn % 2027))), (0, .ref qc), (1, .int (nI p0)), (2, .int (nI sn)), (3, .ref (ad kg))]) hx hb dX0_prove_16 hl (by decide) rfl (fun ls hl => ?_)
  refine lv_aload_n hx hb dX0_prove_18 rfl (lv_at hl 2 rfl) ?_
  refine lv_iload_n hx hb dX0_prove_19 rfl (lv_at hl 4 rfl) ?_
  refine lv_iload_n hx hb dX0_prove_20 rfl (lv_at hl 3 rfl) ?_
  refine vp_callSi (W.runV (As := [.int (nI sn), .int (nI p0)]) (rest := []) ⟨hx, hb, hml, hown, hts⟩ (kX0_nonce l) (cwV 2 hts gX0_prove_X0_nonce rfl rfl rfl (by decide +kernel) ⟨Nat.le_of_ble_eq_true rfl, Nat.le_of_ble_eq_true rfl⟩) (ro_pv (ci := 0) (q := (RX0, TX0, 4)) hE hP rfl wd_ex) rfl rfl hl.1 rfl (lv_room (Nat.le_of_ble_eq_true rfl)) dX0_prove_21 ⟨Nat.le_of_ble_eq_true rfl, Nat.le_of_ble_eq_true rfl⟩) (fun r_21 hr_21 => ?_)
  subst hr_21
  refine lv_istore (lv' := [(6, .int (nI (ncN (nI sn) v mo p0))), (5, .int (stmI z (M (ks + 1)) v mo (nI (bB ^ sn % 2027)))), (4, .int (nI (bB ^ sn % 2027))), (0, .ref qc), (1, .int (nI p0)), (2, .int (nI sn)), (3, .ref (ad kg))]) hx hb dX0_prove_24 hl (by decide) rfl (fun ls hl => ?_)
  refine lv_aload_n hx hb dX0_prove_26 rfl (lv_at hl 6 rfl) ?_
  refine lv_aload_n hx hb dX0_prove_27 rfl (lv_at hl 3 rfl) ?_
  refine va_get (D := D) (ci := 0) (v := .ref (ad ks)) (C := RX0) (T := TX0) (N := 4) hx hb hts hin_RX0 hown hE.1 hP n wd_ex rfl 0 (by decide) hf9 (fun _ h9 => h9) rfl dX0_prove_28 ?_
  refine va_getN (D := D) (ci := 1) (v := .int (M ks 1)) (C := RX1) (T := TX1) (N := 2) hx hb hts hin_RX1 hown hE.1 hP ks (wd_at (M := M) hks (hkr.1 _)) rfl 1 (by decide) hf30 (fun _ h9 => h9) rfl dX0_prove_31 ?_
  refine wr_top (y := (nI z)) hz ?_
  refine va_callv (va_runV (As := [.int (nI z)]) (rest := []) ⟨hx, hb, hml, hown, hts⟩ (kX3_resize l hD hsg hkg hkg1) (cwV 1 hts gX0_prove_X3_resize rfl rfl rfl (by decide +kernel) ⟨Nat.le_of_ble_eq_true rfl, Nat.le_of_ble_eq_true rfl⟩) (rw_pv (ci := 2) (q := (RX3, TX3, 4)) hE hP hS hA rfl (wd_at (M := M) hkg (hsg.1 _))) rfl rfl hl.1 rfl (lv_room (Nat.le_of_ble_eq_true rfl)) dX0_prove_34 ⟨Nat.le_of_ble_eq_true rfl, Nat.le_of_ble_eq_true rfl⟩) hS (fun q _ h => h) (fun q h => h) (fun u_34 t H1 locs ht hvm hr_34 hB_34 hz1 hk1 hS => ?_)
  have hP : va_P D vwCl (wd cy ad n u_34 ++ [(qc, .inr (0, [.ref (ad ks), .int v, .int (nI bB), .int mo]))]) H1 := by rw [← ht]; exact hB_34
  clear hB_34 ht hvm hz1 hk1
  generalize H1 = H at hP hS ⊢
  subst hr_34
  refine lv_aload_n hx hb dX0_prove_37 rfl (lv_at hl 6 rfl) ?_
  refine va_getN (D := D) (ci := 2) (v := .ref (ad (kg + 1))) (C := RX3) (T := TX3) (N := 4) hx hb hts hin_RX3 hown hE.1 hP kg (wd_at (M := (st M kg 1 (nI (2 + z)))) hkg (hsg.1 _)) rfl 0 (by decide) hf37 (fun _ h9 => h9) rfl dX0_prove_38 ?_
  refine lv_iconst (v := (nI 1)) hx hb dX0_prove_41 (by decide) ?_
  refine lv_iload hx hb dX0_prove_42 (lv_at hl 2 rfl) ?_
  refine wr_ast (cy := cy) (ad := ad) (ex := [(qc, .inr (0, [.ref (ad ks), .int v, .int (nI bB), .int mo]))]) hx hb hE.1 hP hD hS (kg + 1) hkg1 hsg.2 1 rfl (by omega) (by decide) dX0_prove_44 (fun H locs hP hS => ?_)
  refine lv_aload_n hx hb dX0_prove_45 rfl (lv_at hl 3 rfl) ?_
  refine lv_iload hx hb dX0_prove_46 (lv_at hl 1 rfl) ?_
  refine lv_iconst (v := (nI 4)) hx hb dX0_prove_48 (by decide) ?_
  refine lv_iload hx hb dX0_prove_49 (lv_at hl 0 rfl) ?_
  refine vp_callSi (W.runS (As := [.int (nI 4), .int (nI (ncN (nI sn) v mo p0))]) (rest := [.int (stmI z (M (ks + 1)) v mo (nI (bB ^ sn % 2027))), .ref qc]) ⟨hx, hb, hml, hown, hts⟩ (kX2_power l (b := 4) (e0 := (ncN (nI sn) v mo p0)) (by decide) (Nat.lt_trans (ncN_lt _ _ _ _) (by decide))) (va_cwS 2 hts gX0_prove_X2_power rfl rfl rfl (by decide +kernel) ⟨Nat.le_of_ble_eq_true rfl, Nat.le_of_ble_eq_true rfl⟩) pu_ps rfl rfl hl.1 rfl (lv_room (Nat.le_of_ble_eq_true rfl)) dX0_prove_51 ⟨Nat.le_of_ble_eq_true rfl, Nat.le_of_ble_eq_true rfl⟩) (fun r_51 hr_51 => ?_)
  subst hr_51
  refine lv_aload_n hx hb dX0_prove_54 rfl (lv_at hl 3 rfl) ?_
  refine va_get (D := D) (ci := 0) (v := .int (nI bB)) (C := RX0) (T := TX0) (N := 4) hx hb hts hin_RX0 hown hE.1 hP n wd_ex rfl 2 (by decide) hf19 (fun _ h9 => h9) rfl dX0_prove_55 ?_
  refine lv_iload hx hb dX0_prove_58 (lv_at hl 0 rfl) ?_
  refine vp_callSi (W.runS (As := [.int (nI bB), .int (nI (ncN (nI sn) v mo p0))]) (rest := [.int (nI (4 ^ (ncN (nI sn) v mo p0) % 2027)), .int (stmI z (M (ks + 1)) v mo (nI (bB ^ sn % 2027))), .ref qc]) ⟨hx, hb, hml, hown, hts⟩ (kX2_power l (b := bB) (e0 := (ncN (nI sn) v mo p0)) hB (Nat.lt_trans (ncN_lt _ _ _ _) (by decide))) (va_cwS 2 hts gX0_prove_X2_power rfl rfl rfl (by decide +kernel) ⟨Nat.le_of_ble_eq_true rfl, Nat.le_of_ble_eq_true rfl⟩) pu_ps rfl rfl hl.1 rfl (lv_room (Nat.le_of_ble_eq_true rfl)) dX0_prove_60 ⟨Nat.le_of_ble_eq_true rfl, Nat.le_of_ble_eq_true rfl⟩) (fun r_60 hr_60 => ?_)
  subst hr_60
  refine vp_callSi (W.runV (As := [.int (stmI z (M (ks + 1)) v mo (nI (bB ^ sn % 2027))), .int (nI (4 ^ (ncN (nI sn) v mo p0) % 2027)), .int (nI (bB ^ (ncN (nI sn) v mo p0) % 2027))]) (rest := []) ⟨hx, hb, hml, hown, hts⟩ (kX0_challengeBehind l (qc := qc)) (cwV 3 hts gX0_prove_X0_challengeBehind rfl rfl rfl (by decide +kernel) ⟨Nat.le_of_ble_eq_true rfl, Nat.le_of_ble_eq_true rfl⟩) (pu_pv (ci := 0) (q := (RX0, TX0, 4)) hE hP rfl wd_ex) rfl rfl hl.1 rfl (lv_room (Nat.le_of_ble_eq_true rfl)) dX0_prove_63 ⟨Nat.le_of_ble_eq_true rfl, Nat.le_of_ble_eq_true rfl⟩) (fun r_63 hr_63 => ?_)
  subst hr_63
  refine lv_istore (lv' := [(7, .int (nI (snC (stmI z (M (ks + 1)) v mo (nI (bB ^ sn % 2027))) bB (bB ^ sn % 2027) (M (ks + 1)) (nI sn) v mo z p0 (ncN (nI sn) v mo p0) 0))), (6, .int (nI (ncN (nI sn) v mo p0))), (5, .int (stmI z (M (ks + 1)) v mo (nI (bB ^ sn % 2027)))), (4, .int (nI (bB ^ sn % 2027))), (0, .ref qc), (1, .int (nI p0)), (2, .int (nI sn)), (3, .ref (ad kg))]) hx hb dX0_prove_66 hl (by decide) rfl (fun ls hl => ?_)
  refine lv_aload_n hx hb dX0_prove_68 rfl (lv_at hl 4 rfl) ?_
  refine lv_iload_n hx hb dX0_prove_69 rfl (lv_at hl 5 rfl) ?_
  refine vp_callSi (W.runV (As := [.int (nI p0)]) (rest := []) ⟨hx, hb, hml, hown, hts⟩ (kX0_placeBehind l hkr hks hks1 (z := z) (by rw [st_r _ _ _ hk1, st_r _ _ _ hk0]; exact hz) hz6 hp0) (cwV 1 hts gX0_prove_X0_placeBehind rfl rfl rfl (by decide +kernel) ⟨Nat.le_of_ble_eq_true rfl, Nat.le_of_ble_eq_true rfl⟩) (ro_pv (ci := 0) (q := (RX0, TX0, 4)) hE hP rfl wd_ex) rfl rfl hl.1 rfl (lv_room (Nat.le_of_ble_eq_true rfl)) dX0_prove_70 ⟨Nat.le_of_ble_eq_true rfl, Nat.le_of_ble_eq_true rfl⟩) (fun r_70 hr_70 => ?_)
  subst hr_70
  refine wr_top (y := (nI (plN z p0 0))) (congrArg nI (plN_0 hp0)) ?_
  refine lv_istore (lv' := [(8, .int (nI (plN z p0 0))), (7, .int (nI (snC (stmI z (M (ks + 1)) v mo (nI (bB ^ sn % 2027))) bB (bB ^ sn % 2027) (M (ks + 1)) (nI sn) v mo z p0 (ncN (nI sn) v mo p0) 0))), (6, .int (nI (ncN (nI sn) v mo p0))), (5, .int (stmI z (M (ks + 1)) v mo (nI (bB ^ sn % 2027)))), (4, .int (nI (bB ^ sn % 2027))), (0, .ref qc), (1, .int (nI p0)), (2, .int (nI sn)), (3, .ref (ad kg))]) hx hb dX0_prove_73 hl (by decide) rfl (fun ls hl => ?_)
  refine lv_iconst (v := (nI 1)) hx hb dX0_prove_75 (by decide) ?_
  refine lv_istore (lv' := [(9, .int (nI 1)), (8, .int (nI (plN z p0 0))), (7, .int (nI (snC (stmI z (M (ks + 1)) v mo (nI (bB ^ sn % 2027))) bB (bB ^ sn % 2027) (M (ks + 1)) (nI sn) v mo z p0 (ncN (nI sn) v mo p0) 0))), (6, .int (nI (ncN (nI sn) v mo p0))), (5, .int (stmI z (M (ks + 1)) v mo (nI (bB ^ sn % 2027)))), (4, .int (nI (bB ^ sn % 2027))), (0, .ref qc), (1, .int (nI p0)), (2, .int (nI sn)), (3, .ref (ad kg))]) hx hb dX0_prove_76 hl (by decide) rfl (fun ls hl => ?_)
  refine wloopW (fun kq (xq : Nat × Mm) H locs ls => match xq with | (k, Mk) => kq = z - k ∧ (k + 1 ≤ z ∧ pvI z (M (ks + 1)) v mo bB sn p0 kg M k Mk) ∧ va_P D vwCl (wd cy ad n Mk ++ [(qc, .inr (0, [.ref (ad ks), .int v, .int (nI bB), .int mo]))]) H ∧ va_S A s.heap H locs ∧ lv_has ls 11 [(9, .int (nI (k + 1))), (8, .int (nI (plN z p0 k))), (7, .int (nI (snC (stmI z (M (ks + 1)) v mo (nI (bB ^ sn % 2027))) bB (bB ^ sn % 2027) (M (ks + 1)) (nI sn) v mo z p0 (ncN (nI sn) v mo p0) k))), (6, .int (nI (ncN (nI sn) v mo p0))), (5, .int (stmI z (M (ks + 1)) v mo (nI (bB ^ sn % 2027)))), (4, .int (nI (bB ^ sn % 2027))), (0, .ref qc), (1, .int (nI p0)), (2, .int (nI sn)), (3, .ref (ad kg))]) (fun k78 x78 H locs ls h78 ih78 => ?_) _ (0, st (st M kg 1 (nI (2 + z))) (kg + 1) 1 (nI (bB ^ sn % 2027))) _ _ ls ⟨rfl, ⟨by omega, pv_0⟩, hP, hS, lv_sub hl [0, 1, 2, 3, 4, 5, 6, 7, 8, 9] rfl⟩
  obtain ⟨k, Mk⟩ := x78
  obtain ⟨hk78, hI, hP, hS, hl⟩ := h78
  have hpl : plN z p0 k < z := plN_lt k (by omega)
  refine lv_iload hx hb dX0_prove_78 (lv_at hl 0 rfl) ?_
  refine lv_aload_n hx hb dX0_prove_80 rfl (lv_at hl 6 rfl) ?_
  refine va_get (D := D) (ci := 0) (v := .ref (ad ks)) (C := RX0) (T := TX0) (N := 4) hx hb hts hin_RX0 hown hE.1 hP n wd_ex rfl 0 (by decide) hf9 (fun _ h9 => h9) rfl dX0_prove_81 ?_
  refine va_getN (D := D) (ci := 1) (v := .int (Mk ks 1)) (C := RX1) (T := TX1) (N := 2) hx hb hts hin_RX1 hown hE.1 hP ks (wd_at (M := Mk) hks (hkr.1 _)) rfl 1 (by decide) hf30 (fun _ h9 => h9) rfl dX0_prove_84 ?_
  refine wr_top (y := (nI z)) (by rw [hI.2.1 _ hk0 hk1]; exact hz) ?_
  refine lv_icmp_ge (tgt := 161) hx hb dX0_prove_87 (by decide) (fun c_87 => ?_) (fun c_87 => ?_)
  · have c_87 := (nI_leI (by omega) (by omega)).mp c_87
    refine lv_iload_n hx hb dX0_prove_161 rfl (lv_at hl 7 rfl) ?_
    refine lv_if_ne (tgt := 173) hx hb dX0_prove_162 (by decide) (fun c_162 => ?_) (fun c_162 => ?_)
    · have c_162 := mt (o_eq0 _).mpr c_162
      rw [nI_toInt (by omega)] at c_162
      refine lv_aload_n hx hb dX0_prove_173 rfl (lv_at hl 9 rfl) ?_
      refine va_getN (D := D) (ci := 2) (v := .ref (ad (kg + 1))) (C := RX3) (T := TX3) (N := 4) hx hb hts hin_RX3 hown hE.1 hP kg (wd_at (M := Mk) hkg (hsg.1 _)) rfl 0 (by decide) hf37 (fun _ h9 => h9) rfl dX0_prove_174 ?_
      refine lv_iconst (v := (nI 2)) hx hb dX0_prove_177 (by decide) ?_
      refine lv_iload_n hx hb dX0_prove_178 rfl (lv_at hl 7 rfl) ?_
      refine lv_iadd hx hb dX0_prove_179 ?_
      refine wr_top (y := (nI (2 + p0))) (nI_add _ _) ?_
      refine lv_iload hx hb dX0_prove_180 (lv_at hl 3 rfl) ?_
      refine lv_iload_n hx hb dX0_prove_182 rfl (lv_at hl 8 rfl) ?_
      refine lv_iload hx hb dX0_prove_183 (lv_at hl 2 rfl) ?_
      refine lv_imul hx hb dX0_prove_185 ?_
      refine wr_top (y := (nI (sn * (snC (stmI z (M (ks + 1)) v mo (nI (bB ^ sn % 2027))) bB (bB ^ sn % 2027) (M (ks + 1)) (nI sn) v mo z p0 (ncN (nI sn) v mo p0) k)))) (pk_mul _ _) ?_
      refine lv_isub hx hb dX0_prove_186 ?_
      refine lv_sipush (v := (nI 1013)) hx hb dX0_prove_187 (by decide) ?_
      have hfb := fm_bnd (ncN_lt (nI sn) v mo p0) hsn (snC_lt (stmI z (M (ks + 1)) v mo (nI (bB ^ sn % 2027))) bB (bB ^ sn % 2027) (M (ks + 1)) (nI sn) v mo z p0 (ncN (nI sn) v mo p0) k)
      refine vp_callSi (W.runS (As := [.int ((nI (ncN (nI sn) v mo p0)) - (nI (sn * (snC (stmI z (M (ks + 1)) v mo (nI (bB ^ sn % 2027))) bB (bB ^ sn % 2027) (M (ks + 1)) (nI sn) v mo z p0 (ncN (nI sn) v mo p0) k)))), .int (nI 1013)]) (rest := [.int (nI (2 + p0)), .ref (ad (kg + 1))]) ⟨hx, hb, hml, hown, hts⟩ (kJ9_floorMod_7cf53 l hfb.1 hfb.2.1) (va_cwS 2 hts gX0_prove_J9_floorMod_7cf53 rfl rfl rfl (by decide +kernel) ⟨Nat.le_of_ble_eq_true rfl, Nat.le_of_ble_eq_true rfl⟩) pu_ps rfl rfl hl.1 rfl (lv_room (Nat.le_of_ble_eq_true rfl)) dX0_prove_190 ⟨Nat.le_of_ble_eq_true rfl, Nat.le_of_ble_eq_true rfl⟩) (fun r_190 hr_190 => ?_)
      subst hr_190
      refine wr_top (y := (nI (lsN (ncN (nI sn) v mo p0) (sn * (snC (stmI z (M (ks + 1)) v mo (nI (bB ^ sn % 2027))) bB (bB ^ sn % 2027) (M (ks + 1)) (nI sn) v mo z p0 (ncN (nI sn) v mo p0) k))))) (congrArg nI hfb.2.2) ?_
      refine wr_ast (cy := cy) (ad := ad) (ex := [(qc, .inr (0, [.ref (ad ks), .int v, .int (nI bB), .int mo]))]) hx hb hE.1 hP hD hS (kg + 1) hkg1 hsg.2 (2 + p0) rfl (by omega) (by decide) dX0_prove_193 (fun H locs hP hS => ?_)
      exact W.vret hx hb hr (fun t ht hW => ⟨⟨(st Mk (kg + 1) (2 + p0) (nI (lsN (ncN (nI sn) v mo p0) (sn * (snC (stmI z (M (ks + 1)) v mo (nI (bB ^ sn % 2027))) bB (bB ^ sn % 2027) (M (ks + 1)) (nI sn) v mo z p0 (ncN (nI sn) v mo p0) k))))), rfl, pv_f1 hp0 (by omega) (by omega) hI.2, (by show va_P D vwCl _ t.heap; rw [ht]; exact hP)⟩, hS.F ht⟩) hS.2.2 dX0_prove_194
    · have c_162 := (o_eq0 _).mp c_162
      rw [nI_toInt (by omega)] at c_162
      refine lv_aload_n hx hb dX0_prove_165 rfl (lv_at hl 9 rfl) ?_
      refine va_getN (D := D) (ci := 2) (v := .ref (ad (kg + 1))) (C := RX3) (T := TX3) (N := 4) hx hb hts hin_RX3 hown hE.1 hP kg (wd_at (M := Mk) hkg (hsg.1 _)) rfl 0 (by decide) hf37 (fun _ h9 => h9) rfl dX0_prove_166 ?_
      refine lv_iconst (v := (nI 0)) hx hb dX0_prove_169 (by decide) ?_
      refine lv_iload hx hb dX0_prove_170 (lv_at hl 2 rfl) ?_
      refine wr_ast (cy := cy) (ad := ad) (ex := [(qc, .inr (0, [.ref (ad ks), .int v, .int (nI bB), .int mo]))]) hx hb hE.1 hP hD hS (kg + 1) hkg1 hsg.2 0 rfl (by omega) (by decide) dX0_prove_172 (fun H locs hP hS => ?_)
      refine lv_aload_n hx hb dX0_prove_173 rfl (lv_at hl 9 rfl) ?_
      refine va_getN (D := D) (ci := 2) (v := .ref (ad (kg + 1))) (C := RX3) (T := TX3) (N := 4) hx hb hts hin_RX3 hown hE.1 hP kg (wd_at (M := (st Mk (kg + 1) 0 (nI (snC (stmI z (M (ks + 1)) v mo (nI (bB ^ sn % 2027))) bB (bB ^ sn % 2027) (M (ks + 1)) (nI sn) v mo z p0 (ncN (nI sn) v mo p0) k)))) hkg (hsg.1 _)) rfl 0 (by decide) hf37 (fun _ h9 => h9) rfl dX0_prove_174 ?_
      refine lv_iconst (v := (nI 2)) hx hb dX0_prove_177 (by decide) ?_
      refine lv_iload_n hx hb dX0_prove_178 rfl (lv_at hl 7 rfl) ?_
      refine lv_iadd hx hb dX0_prove_179 ?_
      refine wr_top (y := (nI (2 + p0))) (nI_add _ _) ?_
      refine lv_iload hx hb dX0_prove_180 (lv_at hl 3 rfl) ?_
      refine lv_iload_n hx hb dX0_prove_182 rfl (lv_at hl 8 rfl) ?_
      refine lv_iload hx hb dX0_prove_183 (lv_at hl 2 rfl) ?_
      refine lv_imul hx hb dX0_prove_185 ?_
      refine wr_top (y := (nI (sn * (snC (stmI z (M (ks + 1)) v mo (nI (bB ^ sn % 2027))) bB (bB ^ sn % 2027) (M (ks + 1)) (nI sn) v mo z p0 (ncN (nI sn) v mo p0) k)))) (pk_mul _ _) ?_
      refine lv_isub hx hb dX0_prove_186 ?_
      refine lv_sipush (v := (nI 1013)) hx hb dX0_prove_187 (by decide) ?_
      have hfb := fm_bnd (ncN_lt (nI sn) v mo p0) hsn (snC_lt (stmI z (M (ks + 1)) v mo (nI (bB ^ sn % 2027))) bB (bB ^ sn % 2027) (M (ks + 1)) (nI sn) v mo z p0 (ncN (nI sn) v mo p0) k)
      refine vp_callSi (W.runS (As := [.int ((nI (ncN (nI sn) v mo p0)) - (nI (sn * (snC (stmI z (M (ks + 1)) v mo (nI (bB ^ sn % 2027))) bB (bB ^ sn % 2027) (M (ks + 1)) (nI sn) v mo z p0 (ncN (nI sn) v mo p0) k)))), .int (nI 1013)]) (rest := [.int (nI (2 + p0)), .ref (ad (kg + 1))]) ⟨hx, hb, hml, hown, hts⟩ (kJ9_floorMod_7cf53 l hfb.1 hfb.2.1) (va_cwS 2 hts gX0_prove_J9_floorMod_7cf53 rfl rfl rfl (by decide +kernel) ⟨Nat.le_of_ble_eq_true rfl, Nat.le_of_ble_eq_true rfl⟩) pu_ps rfl rfl hl.1 rfl (lv_room (Nat.le_of_ble_eq_true rfl)) dX0_prove_190 ⟨Nat.le_of_ble_eq_true rfl, Nat.le_of_ble_eq_true rfl⟩) (fun r_190 hr_190 => ?_)
      subst hr_190
      refine wr_top (y := (nI (lsN (ncN (nI sn) v mo p0) (sn * (snC (stmI z (M (ks + 1)) v mo (nI (bB ^ sn % 2027))) bB (bB ^ sn % 2027) (M (ks + 1)) (nI sn) v mo z p0 (ncN (nI sn) v mo p0) k))))) (congrArg nI hfb.2.2) ?_
      refine wr_ast (cy := cy) (ad := ad) (ex := [(qc, .inr (0, [.ref (ad ks), .int v, .int (nI bB), .int mo]))]) hx hb hE.1 hP hD hS (kg + 1) hkg1 hsg.2 (2 + p0) rfl (by omega) (by decide) dX0_prove_193 (fun H locs hP hS => ?_)
      exact W.vret hx hb hr (fun t ht hW => ⟨⟨(st (st Mk (kg + 1) 0 (nI (snC (stmI z (M (ks + 1)) v mo (nI (bB ^ sn % 2027))) bB (bB ^ sn % 2027) (M (ks + 1)) (nI sn) v mo z p0 (ncN (nI sn) v mo p0) k))) (kg + 1) (2 + p0) (nI (lsN (ncN (nI sn) v mo p0) (sn * (snC (stmI z (M (ks + 1)) v mo (nI (bB ^ sn % 2027))) bB (bB ^ sn % 2027) (M (ks + 1)) (nI sn) v mo z p0 (ncN (nI sn) v mo p0) k))))), rfl, pv_f0 hp0 (by omega) (by omega) hI.2, (by show va_P D vwCl _ t.heap; rw [ht]; exact hP)⟩, hS.F ht⟩) hS.2.2 dX0_prove_194
  · have c_87 := mt (nI_leI (by omega) (by omega)).mpr c_87
    refine lv_iload hx hb dX0_prove_90 (lv_at hl 1 rfl) ?_
    refine lv_if_ne (tgt := 103) hx hb dX0_prove_92 (by decide) (fun c_92 => ?_) (fun c_92 => ?_)
    · have c_92 := mt (o_eq0 _).mpr c_92
      rw [nI_toInt (by omega)] at c_92
      refine lv_aload_n hx hb dX0_prove_103 rfl (lv_at hl 6 rfl) ?_
      refine lv_iload_n hx hb dX0_prove_104 rfl (lv_at hl 8 rfl) ?_
      refine lv_iload hx hb dX0_prove_105 (lv_at hl 1 rfl) ?_
      refine vp_callSi (W.runV (As := [.int (nI sn), .int (nI (plN z p0 k))]) (rest := []) ⟨hx, hb, hml, hown, hts⟩ (kX0_nonce l) (cwV 2 hts gX0_prove_X0_nonce rfl rfl rfl (by decide +kernel) ⟨Nat.le_of_ble_eq_true rfl, Nat.le_of_ble_eq_true rfl⟩) (ro_pv (ci := 0) (q := (RX0, TX0, 4)) hE hP rfl wd_ex) rfl rfl hl.1 rfl (lv_room (Nat.le_of_ble_eq_true rfl)) dX0_prove_107 ⟨Nat.le_of_ble_eq_true rfl, Nat.le_of_ble_eq_true rfl⟩) (fun r_107 hr_107 => ?_)
      subst hr_107
      refine lv_istore (lv' := [(10, .int (nI (ncN (nI sn) v mo (plN z p0 k)))), (9, .int (nI (k + 1))), (8, .int (nI (plN z p0 k))), (7, .int (nI (snC (stmI z (M (ks + 1)) v mo (nI (bB ^ sn % 2027))) bB (bB ^ sn % 2027) (M (ks + 1)) (nI sn) v mo z p0 (ncN (nI sn) v mo p0) k))), (6, .int (nI (ncN (nI sn) v mo p0))), (5, .int (stmI z (M (ks + 1)) v mo (nI (bB ^ sn % 2027)))), (4, .int (nI (bB ^ sn % 2027))), (0, .ref qc), (1, .int (nI p0)), (2, .int (nI sn)), (3, .ref (ad kg))]) hx hb dX0_prove_110 hl (by decide) rfl (fun ls hl => ?_)
      refine lv_aload_n hx hb dX0_prove_112 rfl (lv_at hl 10 rfl) ?_
      refine va_getN (D := D) (ci := 2) (v := .ref (ad (kg + 1))) (C := RX3) (T := TX3) (N := 4) hx hb hts hin_RX3 hown hE.1 hP kg (wd_at (M := Mk) hkg (hsg.1 _)) rfl 0 (by decide) hf37 (fun _ h9 => h9) rfl dX0_prove_113 ?_
      refine lv_iconst (v := (nI 2)) hx hb dX0_prove_116 (by decide) ?_
      refine lv_iload hx hb dX0_prove_117 (lv_at hl 2 rfl) ?_
      refine lv_iadd hx hb dX0_prove_119 ?_
      refine wr_top (y := (nI (2 + (plN z p0 k)))) (nI_add _ _) ?_
      refine lv_iload hx hb dX0_prove_120 (lv_at hl 0 rfl) ?_
      refine wr_ast (cy := cy) (ad := ad) (ex := [(qc, .inr (0, [.ref (ad ks), .int v, .int (nI bB), .int mo]))]) hx hb hE.1 hP hD hS (kg + 1) hkg1 hsg.2 (2 + (plN z p0 k)) rfl (by omega) (by decide) dX0_prove_122 (fun H locs hP hS => ?_)
      refine lv_aload_n hx hb dX0_prove_123 rfl (lv_at hl 7 rfl) ?_
      refine lv_iload hx hb dX0_prove_124 (lv_at hl 5 rfl) ?_
      refine lv_iload hx hb dX0_prove_126 (lv_at hl 6 rfl) ?_
      refine lv_iload hx hb dX0_prove_128 (lv_at hl 3 rfl) ?_
      refine lv_aload_n hx hb dX0_prove_130 rfl (lv_at hl 7 rfl) ?_
      refine va_get (D := D) (ci := 0) (v := .ref (ad ks)) (C := RX0) (T := TX0) (N := 4) hx hb hts hin_RX0 hown hE.1 hP n wd_ex rfl 0 (by decide) hf9 (fun _ h9 => h9) rfl dX0_prove_131 ?_
      refine va_getN (D := D) (ci := 1) (v := .ref (ad (ks + 1))) (C := RX1) (T := TX1) (N := 2) hx hb hts hin_RX1 hown hE.1 hP ks (wd_at (M := (st Mk (kg + 1) (2 + (plN z p0 k)) (nI (ncN (nI sn) v mo (plN z p0 k))))) hks (hkr.1 _)) rfl 0 (by decide) hf45 (fun _ h9 => h9) rfl dX0_prove_134 ?_
      refine lv_iload hx hb dX0_prove_137 (lv_at hl 2 rfl) ?_
      refine wr_ald (cy := cy) (ad := ad) (ex := [(qc, .inr (0, [.ref (ad ks), .int v, .int (nI bB), .int mo]))]) hx hb hE.1 hP (ks + 1) hks1 (hkr.2 _) (plN z p0 k) rfl (by omega) (by decide) dX0_prove_139 ?_
      refine wr_top (y := (nI (vN (M (ks + 1) (plN z p0 k))))) (by first | (rw [st_r _ _ _ hk3, st_r _ _ _ hk3, hI.2.1 _ hk2 hk3]; exact elt_x (hy _ hpl)) | (rw [st_r _ _ _ hk3, hI.2.1 _ hk2 hk3]; exact elt_x (hy _ hpl))) ?_
      refine lv_iload hx hb dX0_prove_140 (lv_at hl 0 rfl) ?_
      refine vp_callSi (W.runV (As := [.int (stmI z (M (ks + 1)) v mo (nI (bB ^ sn % 2027))), .int (nI (bB ^ sn % 2027)), .int (nI (snC (stmI z (M (ks + 1)) v mo (nI (bB ^ sn % 2027))) bB (bB ^ sn % 2027) (M (ks + 1)) (nI sn) v mo z p0 (ncN (nI sn) v mo p0) k)), .int (nI (vN (M (ks + 1) (plN z p0 k)))), .int (nI (ncN (nI sn) v mo (plN z p0 k)))]) (rest := []) ⟨hx, hb, hml, hown, hts⟩ (kX0_step l hB (Nat.mod_lt _ (by decide)) (snC_lt _ _ _ _ _ _ _ _ _ _ k) (elt_lt (hy _ hpl)).2.1 (ncN_lt _ _ _ _)) (cwV 5 hts gX0_prove_X0_step rfl rfl rfl (by decide +kernel) ⟨Nat.le_of_ble_eq_true rfl, Nat.le_of_ble_eq_true rfl⟩) (ro_pv (ci := 0) (q := (RX0, TX0, 4)) hE hP rfl wd_ex) rfl rfl hl.1 rfl (lv_room (Nat.le_of_ble_eq_true rfl)) dX0_prove_142 ⟨Nat.le_of_ble_eq_true rfl, Nat.le_of_ble_eq_true rfl⟩) (fun r_142 hr_142 => ?_)
      subst hr_142
      refine lv_istore (lv' := [(7, .int (nI (snC (stmI z (M (ks + 1)) v mo (nI (bB ^ sn % 2027))) bB (bB ^ sn % 2027) (M (ks + 1)) (nI sn) v mo z p0 (ncN (nI sn) v mo p0) (k + 1)))), (10, .int (nI (ncN (nI sn) v mo (plN z p0 k)))), (9, .int (nI (k + 1))), (8, .int (nI (plN z p0 k))), (6, .int (nI (ncN (nI sn) v mo p0))), (5, .int (stmI z (M (ks + 1)) v mo (nI (bB ^ sn % 2027)))), (4, .int (nI (bB ^ sn % 2027))), (0, .ref qc), (1, .int (nI p0)), (2, .int (nI sn)), (3, .ref (ad kg))]) hx hb dX0_prove_145 hl (by decide) rfl (fun ls hl => ?_)
      refine lv_aload_n hx hb dX0_prove_147 rfl (lv_at hl 7 rfl) ?_
      refine lv_iload hx hb dX0_prove_148 (lv_at hl 3 rfl) ?_
      refine vp_callSi (W.runV (As := [.int (nI (plN z p0 k))]) (rest := []) ⟨hx, hb, hml, hown, hts⟩ (kX0_placeBehind l hkr hks hks1 (z := z) (by first | (rw [st_r _ _ _ hk1, st_r _ _ _ hk1, hI.2.1 _ hk0 hk1]; exact hz) | (rw [st_r _ _ _ hk1, hI.2.1 _ hk0 hk1]; exact hz)) hz6 hpl) (cwV 1 hts gX0_prove_X0_placeBehind rfl rfl rfl (by decide +kernel) ⟨Nat.le_of_ble_eq_true rfl, Nat.le_of_ble_eq_true rfl⟩) (ro_pv (ci := 0) (q := (RX0, TX0, 4)) hE hP rfl wd_ex) rfl rfl hl.1 rfl (lv_room (Nat.le_of_ble_eq_true rfl)) dX0_prove_150 ⟨Nat.le_of_ble_eq_true rfl, Nat.le_of_ble_eq_true rfl⟩) (fun r_150 hr_150 => ?_)
      subst hr_150
      refine wr_top (y := (nI (plN z p0 (k + 1)))) (congrArg nI (plN_succ k (by omega))) ?_
      refine lv_istore (lv' := [(8, .int (nI (plN z p0 (k + 1)))), (7, .int (nI (snC (stmI z (M (ks + 1)) v mo (nI (bB ^ sn % 2027))) bB (bB ^ sn % 2027) (M (ks + 1)) (nI sn) v mo z p0 (ncN (nI sn) v mo p0) (k + 1)))), (10, .int (nI (ncN (nI sn) v mo (plN z p0 k)))), (9, .int (nI (k + 1))), (6, .int (nI (ncN (nI sn) v mo p0))), (5, .int (stmI z (M (ks + 1)) v mo (nI (bB ^ sn % 2027)))), (4, .int (nI (bB ^ sn % 2027))), (0, .ref qc), (1, .int (nI p0)), (2, .int (nI sn)), (3, .ref (ad kg))]) hx hb dX0_prove_153 hl (by decide) rfl (fun ls hl => ?_)
      refine lv_iinc (v := (nI ((k + 1) + 1))) (lv' := [(9, .int (nI ((k + 1) + 1))), (8, .int (nI (plN z p0 (k + 1)))), (7, .int (nI (snC (stmI z (M (ks + 1)) v mo (nI (bB ^ sn % 2027))) bB (bB ^ sn % 2027) (M (ks + 1)) (nI sn) v mo z p0 (ncN (nI sn) v mo p0) (k + 1)))), (10, .int (nI (ncN (nI sn) v mo (plN z p0 k)))), (6, .int (nI (ncN (nI sn) v mo p0))), (5, .int (stmI z (M (ks + 1)) v mo (nI (bB ^ sn % 2027)))), (4, .int (nI (bB ^ sn % 2027))), (0, .ref qc), (1, .int (nI p0)), (2, .int (nI sn)), (3, .ref (ad kg))]) hx hb dX0_prove_155 hl (k := 3) rfl (nI_1 _) (by decide) rfl (fun ls hl => ?_)
      refine lv_goto (tgt := 78) hx hb dX0_prove_158 (by decide) ?_
      exact ih78 _ (k + 1, (st Mk (kg + 1) (2 + (plN z p0 k)) (nI (ncN (nI sn) v mo (plN z p0 k))))) _ _ _ (by omega) ⟨rfl, ⟨by omega, pv_s1 hp0 (by omega) (by omega) hI.2⟩, hP, hS, (lv_sub hl [0, 1, 2, 4, 5, 6, 7, 8, 9, 10] rfl)⟩
    · have c_92 := (o_eq0 _).mp c_92
      rw [nI_toInt (by omega)] at c_92
      refine lv_aload_n hx hb dX0_prove_95 rfl (lv_at hl 9 rfl) ?_
      refine va_getN (D := D) (ci := 2) (v := .ref (ad (kg + 1))) (C := RX3) (T := TX3) (N := 4) hx hb hts hin_RX3 hown hE.1 hP kg (wd_at (M := Mk) hkg (hsg.1 _)) rfl 0 (by decide) hf37 (fun _ h9 => h9) rfl dX0_prove_96 ?_
      refine lv_iconst (v := (nI 0)) hx hb dX0_prove_99 (by decide) ?_
      refine lv_iload hx hb dX0_prove_100 (lv_at hl 2 rfl) ?_
      refine wr_ast (cy := cy) (ad := ad) (ex := [(qc, .inr (0, [.ref (ad ks), .int v, .int (nI bB), .int mo]))]) hx hb hE.1 hP hD hS (kg + 1) hkg1 hsg.2 0 rfl (by omega) (by decide) dX0_prove_102 (fun H locs hP hS => ?_)
      refine lv_aload_n hx hb dX0_prove_103 rfl (lv_at hl 6 rfl) ?_
      refine lv_iload_n hx hb dX0_prove_104 rfl (lv_at hl 8 rfl) ?_
      refine lv_iload hx hb dX0_prove_105 (lv_at hl 1 rfl) ?_
      refine vp_callSi (W.runV (As := [.int (nI sn), .int (nI (plN z p0 k))]) (rest := []) ⟨hx, hb, hml, hown, hts⟩ (kX0_nonce l) (cwV 2 hts gX0_prove_X0_nonce rfl rfl rfl (by decide +kernel) ⟨Nat.le_of_ble_eq_true rfl, Nat.le_of_ble_eq_true rfl⟩) (ro_pv (ci := 0) (q := (RX0, TX0, 4)) hE hP rfl wd_ex) rfl rfl hl.1 rfl (lv_room (Nat.le_of_ble_eq_true rfl)) dX0_prove_107 ⟨Nat.le_of_ble_eq_true rfl, Nat.le_of_ble_eq_true rfl⟩) (fun r_107 hr_107 => ?_)
      subst hr_107
      refine lv_istore (lv' := [(10, .int (nI (ncN (nI sn) v mo (plN z p0 k)))), (9, .int (nI (k + 1))), (8, .int (nI (plN z p0 k))), (7, .int (nI (snC (stmI z (M (ks + 1)) v mo (nI (bB ^ sn % 2027))) bB (bB ^ sn % 2027) (M (ks + 1)) (nI sn) v mo z p0 (ncN (nI sn) v mo p0) k))), (6, .int (nI (ncN (nI sn) v mo p0))), (5, .int (stmI z (M (ks + 1)) v mo (nI (bB ^ sn % 2027)))), (4, .int (nI (bB ^ sn % 2027))), (0, .ref qc), (1, .int (nI p0)), (2, .int (nI sn)), (3, .ref (ad kg))]) hx hb dX0_prove_110 hl (by decide) rfl (fun ls hl => ?_)
      refine lv_aload_n hx hb dX0_prove_112 rfl (lv_at hl 10 rfl) ?_
      refine va_getN (D := D) (ci := 2) (v := .ref (ad (kg + 1))) (C := RX3) (T := TX3) (N := 4) hx hb hts hin_RX3 hown hE.1 hP kg (wd_at (M := (st Mk (kg + 1) 0 (nI (snC (stmI z (M (ks + 1)) v mo (nI (bB ^ sn % 2027))) bB (bB ^ sn % 2027) (M (ks + 1)) (nI sn) v mo z p0 (ncN (nI sn) v mo p0) k)))) hkg (hsg.1 _)) rfl 0 (by decide) hf37 (fun _ h9 => h9) rfl dX0_prove_113 ?_
      refine lv_iconst (v := (nI 2)) hx hb dX0_prove_116 (by decide) ?_
      refine lv_iload hx hb dX0_prove_117 (lv_at hl 2 rfl) ?_
      refine lv_iadd hx hb dX0_prove_119 ?_
      refine wr_top (y := (nI (2 + (plN z p0 k)))) (nI_add _ _) ?_
      refine lv_iload hx hb dX0_prove_120 (lv_at hl 0 rfl) ?_
      refine wr_ast (cy := cy) (ad := ad) (ex := [(qc, .inr (0, [.ref (ad ks), .int v, .int (nI bB), .int mo]))]) hx hb hE.1 hP hD hS (kg + 1) hkg1 hsg.2 (2 + (plN z p0 k)) rfl (by omega) (by decide) dX0_prove_122 (fun H locs hP hS => ?_)
      refine lv_aload_n hx hb dX0_prove_123 rfl (lv_at hl 7 rfl) ?_
      refine lv_iload hx hb dX0_prove_124 (lv_at hl 5 rfl) ?_
      refine lv_iload hx hb dX0_prove_126 (lv_at hl 6 rfl) ?_
      refine lv_iload hx hb dX0_prove_128 (lv_at hl 3 rfl) ?_
      refine lv_aload_n hx hb dX0_prove_130 rfl (lv_at hl 7 rfl) ?_
      refine va_get (D := D) (ci := 0) (v := .ref (ad ks)) (C := RX0) (T := TX0) (N := 4) hx hb hts hin_RX0 hown hE.1 hP n wd_ex rfl 0 (by decide) hf9 (fun _ h9 => h9) rfl dX0_prove_131 ?_
      refine va_getN (D := D) (ci := 1) (v := .ref (ad (ks + 1))) (C := RX1) (T := TX1) (N := 2) hx hb hts hin_RX1 hown hE.1 hP ks (wd_at (M := (st (st Mk (kg + 1) 0 (nI (snC (stmI z (M (ks + 1)) v mo (nI (bB ^ sn % 2027))) bB (bB ^ sn % 2027) (M (ks + 1)) (nI sn) v mo z p0 (ncN (nI sn) v mo p0) k))) (kg + 1) (2 + (plN z p0 k)) (nI (ncN (nI sn) v mo (plN z p0 k))))) hks (hkr.1 _)) rfl 0 (by decide) hf45 (fun _ h9 => h9) rfl dX0_prove_134 ?_
      refine lv_iload hx hb dX0_prove_137 (lv_at hl 2 rfl) ?_
      refine wr_ald (cy := cy) (ad := ad) (ex := [(qc, .inr (0, [.ref (ad ks), .int v, .int (nI bB), .int mo]))]) hx hb hE.1 hP (ks + 1) hks1 (hkr.2 _) (plN z p0 k) rfl (by omega) (by decide) dX0_prove_139 ?_
      refine wr_top (y := (nI (vN (M (ks + 1) (plN z p0 k))))) (by first | (rw [st_r _ _ _ hk3, st_r _ _ _ hk3, hI.2.1 _ hk2 hk3]; exact elt_x (hy _ hpl)) | (rw [st_r _ _ _ hk3, hI.2.1 _ hk2 hk3]; exact elt_x (hy _ hpl))) ?_
      refine lv_iload hx hb dX0_prove_140 (lv_at hl 0 rfl) ?_
      refine vp_callSi (W.runV (As := [.int (stmI z (M (ks + 1)) v mo (nI (bB ^ sn % 2027))), .int (nI (bB ^ sn % 2027)), .int (nI (snC (stmI z (M (ks + 1)) v mo (nI (bB ^ sn % 2027))) bB (bB ^ sn % 2027) (M (ks + 1)) (nI sn) v mo z p0 (ncN (nI sn) v mo p0) k)), .int (nI (vN (M (ks + 1) (plN z p0 k)))), .int (nI (ncN (nI sn) v mo (plN z p0 k)))]) (rest := []) ⟨hx, hb, hml, hown, hts⟩ (kX0_step l hB (Nat.mod_lt _ (by decide)) (snC_lt _ _ _ _ _ _ _ _ _ _ k) (elt_lt (hy _ hpl)).2.1 (ncN_lt _ _ _ _)) (cwV 5 hts gX0_prove_X0_step rfl rfl rfl (by decide +kernel) ⟨Nat.le_of_ble_eq_true rfl, Nat.le_of_ble_eq_true rfl⟩) (ro_pv (ci := 0) (q := (RX0, TX0, 4)) hE hP rfl wd_ex) rfl rfl hl.1 rfl (lv_room (Nat.le_of_ble_eq_true rfl)) dX0_prove_142 ⟨Nat.le_of_ble_eq_true rfl, Nat.le_of_ble_eq_true rfl⟩) (fun r_142 hr_142 => ?_)
      subst hr_142
      refine lv_istore (lv' := [(7, .int (nI (snC (stmI z (M (ks + 1)) v mo (nI (bB ^ sn % 2027))) bB (bB ^ sn % 2027) (M (ks + 1)) (nI sn) v mo z p0 (ncN (nI sn) v mo p0) (k + 1)))), (10, .int (nI (ncN (nI sn) v mo (plN z p0 k)))), (9, .int (nI (k + 1))), (8, .int (nI (plN z p0 k))), (6, .int (nI (ncN (nI sn) v mo p0))), (5, .int (stmI z (M (ks + 1)) v mo (nI (bB ^ sn % 2027)))), (4, .int (nI (bB ^ sn % 2027))), (0, .ref qc), (1, .int (nI p0)), (2, .int (nI sn)), (3, .ref (ad kg))]) hx hb dX0_prove_145 hl (by decide) rfl (fun ls hl => ?_)
      refine lv_aload_n hx hb dX0_prove_147 rfl (lv_at hl 7 rfl) ?_
      refine lv_iload hx hb dX0_prove_148 (lv_at hl 3 rfl) ?_
      refine vp_callSi (W.runV (As := [.int (nI (plN z p0 k))]) (rest := []) ⟨hx, hb, hml, hown, hts⟩ (kX0_placeBehind l hkr hks hks1 (z := z) (by first | (rw [st_r _ _ _ hk1, st_r _ _ _ hk1, hI.2.1 _ hk0 hk1]; exact hz) | (rw [st_r _ _ _ hk1, hI.2.1 _ hk0 hk1]; exact hz)) hz6 hpl) (cwV 1 hts gX0_prove_X0_placeBehind rfl rfl rfl (by decide +kernel) ⟨Nat.le_of_ble_eq_true rfl, Nat.le_of_ble_eq_true rfl⟩) (ro_pv (ci := 0) (q := (RX0, TX0, 4)) hE hP rfl wd_ex) rfl rfl hl.1 rfl (lv_room (Nat.le_of_ble_eq_true rfl)) dX0_prove_150 ⟨Nat.le_of_ble_eq_true rfl, Nat.le_of_ble_eq_true rfl⟩) (fun r_150 hr_150 => ?_)
      subst hr_150
      refine wr_top (y := (nI (plN z p0 (k + 1)))) (congrArg nI (plN_succ k (by omega))) ?_
      refine lv_istore (lv' := [(8, .int (nI (plN z p0 (k + 1)))), (7, .int (nI (snC (stmI z (M (ks + 1)) v mo (nI (bB ^ sn % 2027))) bB (bB ^ sn % 2027) (M (ks + 1)) (nI sn) v mo z p0 (ncN (nI sn) v mo p0) (k + 1)))), (10, .int (nI (ncN (nI sn) v mo (plN z p0 k)))), (9, .int (nI (k + 1))), (6, .int (nI (ncN (nI sn) v mo p0))), (5, .int (stmI z (M (ks + 1)) v mo (nI (bB ^ sn % 2027)))), (4, .int (nI (bB ^ sn % 2027))), (0, .ref qc), (1, .int (nI p0)), (2, .int (nI sn)), (3, .ref (ad kg))]) hx hb dX0_prove_153 hl (by decide) rfl (fun ls hl => ?_)
      refine lv_iinc (v := (nI ((k + 1) + 1))) (lv' := [(9, .int (nI ((k + 1) + 1))), (8, .int (nI (plN z p0 (k + 1)))), (7, .int (nI (snC (stmI z (M (ks + 1)) v mo (nI (bB ^ sn % 2027))) bB (bB ^ sn % 2027) (M (ks + 1)) (nI sn) v mo z p0 (ncN (nI sn) v mo p0) (k + 1)))), (10, .int (nI (ncN (nI sn) v mo (plN z p0 k)))), (6, .int (nI (ncN (nI sn) v mo p0))), (5, .int (stmI z (M (ks + 1)) v mo (nI (bB ^ sn % 2027)))), (4, .int (nI (bB ^ sn % 2027))), (0, .ref qc), (1, .int (nI p0)), (2, .int (nI sn)), (3, .ref (ad kg))]) hx hb dX0_prove_155 hl (k := 3) rfl (nI_1 _) (by decide) rfl (fun ls hl => ?_)
      refine lv_goto (tgt := 78) hx hb dX0_prove_158 (by decide) ?_
      exact ih78 _ (k + 1, (st (st Mk (kg + 1) 0 (nI (snC (stmI z (M (ks + 1)) v mo (nI (bB ^ sn % 2027))) bB (bB ^ sn % 2027) (M (ks + 1)) (nI sn) v mo z p0 (ncN (nI sn) v mo p0) k))) (kg + 1) (2 + (plN z p0 k)) (nI (ncN (nI sn) v mo (plN z p0 k))))) _ _ _ (by omega) ⟨rfl, ⟨by omega, pv_s0 hp0 (by omega) (by omega) hI.2⟩, hP, hS, (lv_sub hl [0, 1, 2, 4, 5, 6, 7, 8, 9, 10] rfl)⟩
