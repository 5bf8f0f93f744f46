set_option maxHeartbeats 4000000 in
set_option maxRecDepth 100000 in
/-- sign -/
theorem kX5_sign (l : Launch) (hlt : l.stackTraces = false) {D : va_G} {cy ad : Nat → Nat} {n : Nat} {M : Mm} {A : Nat → Prop} (hD : ∀ M, va_D A (wd cy ad n M ++ [])) (hn : 137 ≤ n) {rc tc : Nat} {rs : Nat → Nat} {rg tp : Int32} (hrc : M 0 2 = nI rc) (hrc8 : rc ≤ 8) (htc : M 0 4 = nI tc) (htc6 : tc ≤ 6) (hrg : rgP rc rs M) (hbs : bsP tc M) {pl sec mo : Int32} : vx_Met l yX5_sign wsX5_sign ({ frames := 7, cells := 3, slots := 18, locals := 107 }) (va_Pc [.ref (ad 0), .int rg, .int tp, .int pl, .int sec, .int mo] (TW D cy (wd cy ad n M ++ []) A)) (va_Qi (S := Mm) (fun r u => sgOK rc tc rs M rg tp pl sec ∧ r = u (5 + 1) 1 ∧ pvE (rs (vN rg)) (M (13 + 2 * vN rg + 1)) (M (29 + 18 * vN tp) 0) mo (tB (M (29 + 18 * vN tp) 0)) (vN sec) (vN pl) 5 M u) (fun u t => va_P D vwCl (wd cy ad n u ++ []) t.heap) A) (vx_X (S := Mm) (fun _ => True) (fun E u t => (E = "java/lang/IllegalArgumentException" ∧ ¬ sgOK rc tc rs M rg tp pl sec ∧ u = M) ∧ va_P D vwCl (wd cy ad n u ++ []) t.heap) A) 3 18 A := by
  refine vx_ofW (cc := cX5_sign) (maxL := 8) (ret := (some .int)) (by decide) rfl ?_
  intro p e s m args below meth c s₁ B hml htab hv
  obtain ⟨rfl, hP, hE, hA, hX⟩ := hv
  have hx := B.exec
  have hb := B.bytes
  have hr := B.returns
  have hts := atoms_spec (ws := wsX5_sign) B.pre
  have hown : s.vm.findClass RX5 = some m.cls := findClass_of_methodNamed B.named
  have hlocks := B.notSynchronized
  have hf115 : (Cond.fieldLinkNest RX5 115 "RingPetition$Topic" "topicBase" "I" "RingPetition").before #[.ref (ad 0), .int rg, .int tp, .int pl, .int sec, .int mo] s = true := va_Nw.use rfl (hE.2 _ (List.mem_of_getElem? (i := 16) rfl))
  have hf124 : (Cond.fieldLinkNest RX5 124 "RingPetition$KeyRow" "keys" "[I" "RingPetition").before #[.ref (ad 0), .int rg, .int tp, .int pl, .int sec, .int mo] s = true := va_Nw.use rfl (hE.2 _ (List.mem_of_getElem? (i := 1) rfl))
  have hf131 : (Cond.fieldLinkNest RX5 131 "RingPetition$Topic" "value" "I" "RingPetition").before #[.ref (ad 0), .int rg, .int tp, .int pl, .int sec, .int mo] s = true := va_Nw.use rfl (hE.2 _ (List.mem_of_getElem? (i := 15) rfl))
  have hf141 : (Cond.fieldLinkNest RX5 141 "RingPetition$Signature" "numbers" "[I" "RingPetition").before #[.ref (ad 0), .int rg, .int tp, .int pl, .int sec, .int mo] s = true := va_Nw.use rfl (hE.2 _ (List.mem_of_getElem? (i := 7) rfl))
  have hf38 : (Cond.fieldLink RX5 38 "RingPetition" "drafted" "LRingPetition$Signature;").before #[.ref (ad 0), .int rg, .int tp, .int pl, .int sec, .int mo] s = true := hts _ (by decide +kernel)
  have hf75 : (Cond.fieldLinkNest RX5 75 "RingPetition$KeyRow" "size" "I" "RingPetition").before #[.ref (ad 0), .int rg, .int tp, .int pl, .int sec, .int mo] s = true := va_Nw.use rfl (hE.2 _ (List.mem_of_getElem? (i := 3) rfl))
  have hin_RX0 : ∀ w ∈ u_ws RX0 TX0 4, w ∈ wsX5_sign := by decide +kernel
  have hin_RX1 : ∀ w ∈ u_ws RX1 TX1 2, w ∈ wsX5_sign := by decide +kernel
  have hin_RX3 : ∀ w ∈ u_ws RX3 TX3 4, w ∈ wsX5_sign := by decide +kernel
  have hin_RX4 : ∀ w ∈ u_ws RX4 TX4 5, w ∈ wsX5_sign := by decide +kernel
  have hin_RX5 : ∀ w ∈ u_ws RX5 TX5 11, w ∈ wsX5_sign := by decide +kernel
  have hS : va_S A s.heap s.heap [] := va_S.rf
  have hl := lv_entry ([.ref (ad 0), .int rg, .int tp, .int pl, .int sec, .int mo]) (n := 8) (Nat.le_of_ble_eq_true rfl)
  rw [lg_entry_eq]
  generalize (lg_sl ([.ref (ad 0), .int rg, .int tp, .int pl, .int sec, .int mo]) ++ List.replicate (8 - (lg_sl ([.ref (ad 0), .int rg, .int tp, .int pl, .int sec, .int mo])).length) Slot.unset).toArray = ls at hl ⊢
  have hl : lv_has ls 8 [(0, .ref (ad 0)), (1, .int rg), (2, .int tp), (3, .int pl), (4, .int sec), (5, .int mo)] := hl
  refine lv_aload_n hx hb dX5_sign_0 rfl (lv_at hl 0 rfl) ?_
  refine lv_iload_n hx hb dX5_sign_1 rfl (lv_at hl 1 rfl) ?_
  refine vx_callq (vx_runV (As := [.int rg]) (rest := []) ⟨hx, hb, hml, hown, hts⟩ (kX5_knownRing l hlt hD hn hrc hrc8) (cwV 1 hts gX5_sign_X5_knownRing rfl rfl rfl (by decide +kernel) ⟨Nat.le_of_ble_eq_true rfl, Nat.le_of_ble_eq_true rfl⟩) (tw_pv (ci := 4) (q := (RX5, TX5, 11)) hE hP hS hA hX rfl (wd_at (M := M) (show 0 < n by omega) ((g_0 cy ad) _))) rfl rfl hl.1 rfl (lv_room (Nat.le_of_ble_eq_true rfl)) dX5_sign_2 ⟨Nat.le_of_ble_eq_true rfl, Nat.le_of_ble_eq_true rfl⟩) hS (fun q _ h => h) (fun q h => h) (fun q _ h => h) (fun E9 ce q9 u t H1 locs1 ht hvm hpx hBX hz1 hk1 hS hce hcv hcl => ?_) (fun r_2 u_2 t H1 locs ht hvm hr_2 hB_2 hz1 hk1 hS => ?_)
  · exact vx_out (fun x h => (htab x h).elim) hlocks hce hcv hcl (fun t2 h1 h2 => ⟨u, trivial, ⟨⟨hBX.1.1, fun h => by have := h.1.1; have := h.1.2; have := hBX.1.2.1; omega, hBX.1.2.2⟩, by rw [h1, ← ht]; exact hBX.2⟩, hS.F h1⟩) hS.2.2 (Nat.le_of_ble_eq_true rfl) (Nat.le_of_ble_eq_true rfl)
  have hP : va_P D vwCl (wd cy ad n M ++ []) H1 := by rw [← ht]; exact hB_2
  clear hB_2 ht hvm hz1 hk1
  generalize H1 = H at hP hS ⊢
  obtain ⟨hrg0, hrg1, rfl⟩ := hr_2
  have hr8 : vN rg < rc := by rw [vN_toInt]; omega
  obtain ⟨hz, hz6, hy⟩ := hrg (vN rg) hr8
  refine lv_astore (lv' := [(6, .ref (ad (13 + 2 * vN rg))), (0, .ref (ad 0)), (1, .int rg), (2, .int tp), (3, .int pl), (4, .int sec), (5, .int mo)]) hx hb dX5_sign_5 hl (by decide) rfl (fun ls hl => ?_)
  refine lv_aload_n hx hb dX5_sign_7 rfl (lv_at hl 1 rfl) ?_
  refine lv_iload_n hx hb dX5_sign_8 rfl (lv_at hl 3 rfl) ?_
  refine vx_callq (vx_runV (As := [.int tp]) (rest := []) ⟨hx, hb, hml, hown, hts⟩ (kX5_knownTopic l hlt hD hn htc htc6) (cwV 1 hts gX5_sign_X5_knownTopic rfl rfl rfl (by decide +kernel) ⟨Nat.le_of_ble_eq_true rfl, Nat.le_of_ble_eq_true rfl⟩) (tw_pv (ci := 4) (q := (RX5, TX5, 11)) hE hP hS hA hX rfl (wd_at (M := M) (show 0 < n by omega) ((g_0 cy ad) _))) rfl rfl hl.1 rfl (lv_room (Nat.le_of_ble_eq_true rfl)) dX5_sign_9 ⟨Nat.le_of_ble_eq_true rfl, Nat.le_of_ble_eq_true rfl⟩) hS (fun q _ h => h) (fun q h => h) (fun q _ h => h) (fun E9 ce q9 u t H1 locs1 ht hvm hpx hBX hz1 hk1 hS hce hcv hcl => ?_) (fun r_9 u_9 t H1 locs ht hvm hr_9 hB_9 hz1 hk1 hS => ?_)
  · exact vx_out (fun x h => (htab x h).elim) hlocks hce hcv hcl (fun t2 h1 h2 => ⟨u, trivial, ⟨⟨hBX.1.1, fun h => by have := h.2.1.1; have := h.2.1.2; have := hBX.1.2.1; omega, hBX.1.2.2⟩, by rw [h1, ← ht]; exact hBX.2⟩, hS.F h1⟩) hS.2.2 (Nat.le_of_ble_eq_true rfl) (Nat.le_of_ble_eq_true rfl)
  have hP : va_P D vwCl (wd cy ad n M ++ []) H1 := by rw [← ht]; exact hB_9
  clear hB_9 ht hvm hz1 hk1
  generalize H1 = H at hP hS ⊢
  obtain ⟨htp0, htp1, rfl⟩ := hr_9
  have ht6 : vN tp < tc := by rw [vN_toInt]; omega
  have hbt := hbs (vN tp) ht6
  refine lv_astore (lv' := [(7, .ref (ad (29 + 18 * vN tp))), (6, .ref (ad (13 + 2 * vN rg))), (0, .ref (ad 0)), (1, .int rg), (2, .int tp), (3, .int pl), (4, .int sec), (5, .int mo)]) hx hb dX5_sign_12 hl (by decide) rfl (fun ls hl => ?_)
  refine lv_iload_n hx hb dX5_sign_14 rfl (lv_at hl 5 rfl) ?_
  refine lv_if_lt (tgt := 27) hx hb dX5_sign_15 (by decide) (fun c_15 => ?_) (fun c_15 => ?_)
  · have c_15 := (o_lt0 _).mp c_15
    obtain ⟨sa, hstr⟩ := hX.2.2.1 (122, "no place in the ring") (List.mem_of_getElem? (i := 6) rfl)
    exact vx_throwS (text := "no place in the ring") (names := exN) (ik := 68) (is := 122) (ic := 72) (A := A) hx hb hlt hown ex_c68 ex_n (hts (.classLink RX5 68 "java/lang/IllegalArgumentException") (by decide +kernel)) (hts (.initialized "java/lang/IllegalArgumentException") (by decide +kernel)) hstr (vx_hat (fun w h => hts w (List.mem_cons_of_mem _ (List.mem_append_right _ h))) ex_b68 (ex_u hX (List.mem_of_getElem? (i := 0) rfl))) ex_g68 hX.1 hX.2.1 hS (hl.1.trans hml.symm) dX5_sign_27 dX5_sign_30 dX5_sign_31 dX5_sign_33 dX5_sign_36 (fun x h => (htab x h).elim) (Nat.le_of_ble_eq_true rfl) (Nat.le_of_ble_eq_true rfl) (Nat.le_of_ble_eq_true rfl) (Nat.le_of_ble_eq_true rfl) hlocks (fun t h1 h2 h3 => ⟨M, trivial, ⟨⟨rfl, fun h => by have := h.2.2.1.1; have := h.2.2.1.2; omega, rfl⟩, va_keep hP h3⟩, vx_fin hS h2 h3⟩) hS.2.2 (Nat.le_of_ble_eq_true rfl) (Nat.le_of_ble_eq_true rfl)
  · have c_15 := mt (o_lt0 _).mpr c_15
    refine lv_iload_n hx hb dX5_sign_18 rfl (lv_at hl 5 rfl) ?_
    refine lv_aload hx hb dX5_sign_19 (lv_at hl 1 rfl) ?_
    refine va_getN (D := D) (ci := 1) (v := .int (M (13 + 2 * vN rg) 1)) (C := RX1) (T := TX1) (N := 2) hx hb hts hin_RX1 hown hE.1 hP (13 + 2 * vN rg) (wd_at (M := M) (show 13 + 2 * vN rg < n by omega) ((kr_r cy ad (show vN rg < 8 by omega)).1 _)) rfl 1 (by decide) hf75 (fun _ h9 => h9) rfl dX5_sign_21 ?_
    refine wr_top (y := (nI (rs (vN rg)))) hz ?_
    refine lv_icmp_lt (tgt := 37) hx hb dX5_sign_24 (by decide) (fun c_24 => ?_) (fun c_24 => ?_)
    · have c_24 := (o_gt (by omega) _).mp c_24
      refine lv_iload hx hb dX5_sign_37 (lv_at hl 6 rfl) ?_
      refine vp_callSi (W.runS (As := [.int sec]) (rest := []) ⟨hx, hb, hml, hown, hts⟩ (kX2_isSecret l) (va_cwS 1 hts gX5_sign_X2_isSecret rfl rfl rfl (by decide +kernel) ⟨Nat.le_of_ble_eq_true rfl, Nat.le_of_ble_eq_true rfl⟩) pu_ps rfl rfl hl.1 rfl (lv_room (Nat.le_of_ble_eq_true rfl)) dX5_sign_39 ⟨Nat.le_of_ble_eq_true rfl, Nat.le_of_ble_eq_true rfl⟩) (fun r_39 hr_39 => ?_)
      rcases hr_39 with ⟨hq_39, rfl⟩ | ⟨hq_39, rfl⟩
      · refine lv_if_eq (tgt := 61) hx hb dX5_sign_42 (by decide) (fun c_42 => ?_) (fun c_42 => ?_)
        · exact absurd c_42 (by decide)
        · have c_42 := mt (o_eq0 _).mpr c_42
          refine lv_iconst (v := (nI 4)) hx hb dX5_sign_45 (by decide) ?_
          refine lv_iload hx hb dX5_sign_46 (lv_at hl 6 rfl) ?_
          refine wr_top (y := (nI (vN sec))) (x_vN (by omega)) ?_
          refine vp_callSi (W.runS (As := [.int (nI 4), .int (nI (vN sec))]) (rest := []) ⟨hx, hb, hml, hown, hts⟩ (kX2_power l (b := 4) (e0 := vN sec) (by decide) (by rw [vN_toInt]; omega)) (va_cwS 2 hts gX5_sign_X2_power rfl rfl rfl (by decide +kernel) ⟨Nat.le_of_ble_eq_true rfl, Nat.le_of_ble_eq_true rfl⟩) pu_ps rfl rfl hl.1 rfl (lv_room (Nat.le_of_ble_eq_true rfl)) dX5_sign_48 ⟨Nat.le_of_ble_eq_true rfl, Nat.le_of_ble_eq_true rfl⟩) (fun r_48 hr_48 => ?_)
          subst hr_48
          refine lv_aload hx hb dX5_sign_51 (lv_at hl 1 rfl) ?_
          refine va_getN (D := D) (ci := 1) (v := .ref (ad (13 + 2 * vN rg + 1))) (C := RX1) (T := TX1) (N := 2) hx hb hts hin_RX1 hown hE.1 hP (13 + 2 * vN rg) (wd_at (M := M) (show 13 + 2 * vN rg < n by omega) ((kr_r cy ad (show vN rg < 8 by omega)).1 _)) rfl 0 (by decide) hf124 (fun _ h9 => h9) rfl dX5_sign_53 ?_
          refine lv_iload_n hx hb dX5_sign_56 rfl (lv_at hl 5 rfl) ?_
          refine wr_ald (cy := cy) (ad := ad) (ex := []) hx hb hE.1 hP (13 + 2 * vN rg + 1) (show 13 + 2 * vN rg + 1 < n by omega) ((kr_r cy ad (show vN rg < 8 by omega)).2 _) (vN pl) (x_vN (by omega)) (by rw [vN_toInt]; omega) (by decide) dX5_sign_57 ?_
          refine lv_icmp_eq (tgt := 71) hx hb dX5_sign_58 (by decide) (fun c_58 => ?_) (fun c_58 => ?_)
          · refine wr_newC (cy := cy) (ad := ad) hx hb hts hin_RX0 hown (hts (.classLink RX5 129 RX0) (by decide +kernel)) (hts (.instantiable RX0 4) (by decide +kernel)) (hts (.initialized RX0) (by decide +kernel)) hE.1 hP (hD _) hS hA (Nat.le_of_ble_eq_true rfl) (Nat.le_of_ble_eq_true rfl) dX5_sign_71 (fun qc H hP hDq hS => ?_)
            refine lv_dup hx hb dX5_sign_74 rfl ?_
            refine lv_aload hx hb dX5_sign_75 (lv_at hl 1 rfl) ?_
            refine lv_aload hx hb dX5_sign_77 (lv_at hl 0 rfl) ?_
            refine va_getN (D := D) (ci := 3) (v := .int (M (29 + 18 * vN tp) 0)) (C := RX4) (T := TX4) (N := 5) hx hb hts hin_RX4 hown hE.1 hP (29 + 18 * vN tp) (wd_at (M := M) (show 29 + 18 * vN tp < n by omega) ((tp_t cy ad (show vN tp < 6 by omega)).1 _)) rfl 0 (by decide) hf131 (fun _ h9 => h9) rfl dX5_sign_79 ?_
            refine lv_aload hx hb dX5_sign_82 (lv_at hl 0 rfl) ?_
            refine va_getN (D := D) (ci := 3) (v := .int (M (29 + 18 * vN tp) 1)) (C := RX4) (T := TX4) (N := 5) hx hb hts hin_RX4 hown hE.1 hP (29 + 18 * vN tp) (wd_at (M := M) (show 29 + 18 * vN tp < n by omega) ((tp_t cy ad (show vN tp < 6 by omega)).1 _)) rfl 1 (by decide) hf115 (fun _ h9 => h9) rfl dX5_sign_84 ?_
            refine wr_top (y := (nI (tB (M (29 + 18 * vN tp) 0)))) hbt ?_
            refine lv_iload hx hb dX5_sign_87 (lv_at hl 7 rfl) ?_
            refine va_callv (va_runI (As := [.ref (ad (13 + 2 * vN rg)), .int (M (29 + 18 * vN tp) 0), .int (nI (tB (M (29 + 18 * vN tp) 0))), .int mo]) (rest := [.ref qc]) ⟨hx, hb, hml, hown, hts⟩ (kX0_init l (ks := 13 + 2 * vN rg) hDq) (cwI 4 hts ggX5_sign_X0_init rfl rfl rfl (hts (.initialized RX0) (by decide +kernel)) (hts (.methodLink RX5 134 yX0_init) (by decide +kernel)) (hts (.instanceMethod yX0_init) (by decide +kernel)) rfl (by decide +kernel) ⟨Nat.le_of_ble_eq_true rfl, Nat.le_of_ble_eq_true rfl⟩) (rw_ps hE hP hS hA) rfl rfl hl.1 rfl (lv_room (Nat.le_of_ble_eq_true rfl)) dX5_sign_89 ⟨Nat.le_of_ble_eq_true rfl, Nat.le_of_ble_eq_true rfl⟩) hS (fun q _ h => h) (fun q h => h) (fun u_89 t H1 locs ht hvm hr_89 hB_89 hz1 hk1 hS => ?_)
            have hP : va_P D vwCl (wd cy ad n M ++ [(qc, .inr (0, [.ref (ad (13 + 2 * vN rg)), .int (M (29 + 18 * vN tp) 0), .int (nI (tB (M (29 + 18 * vN tp) 0))), .int mo]))]) H1 := by rw [← ht]; exact hB_89
            clear hB_89 ht hvm hz1 hk1 hr_89
            generalize H1 = H at hP hS ⊢
            have hDc : ∀ M9, va_D A (wd cy ad n M9 ++ [(qc, .inr (0, [.ref (ad (13 + 2 * vN rg)), .int (M (29 + 18 * vN tp) 0), .int (nI (tB (M (29 + 18 * vN tp) 0))), .int mo]))]) := fun _ => wd_Dx hDq
            refine lv_iload_n hx hb dX5_sign_92 rfl (lv_at hl 5 rfl) ?_
            refine wr_top (y := (nI (vN pl))) (x_vN (by omega)) ?_
            refine lv_iload hx hb dX5_sign_93 (lv_at hl 6 rfl) ?_
            refine wr_top (y := (nI (vN sec))) (x_vN (by omega)) ?_
            refine lv_aload_n hx hb dX5_sign_95 rfl (lv_at hl 2 rfl) ?_
            refine va_get (D := D) (ci := 4) (v := .ref (ad 5)) (C := RX5) (T := TX5) (N := 11) hx hb hts hin_RX5 hown hE.1 hP 0 (wd_at (M := M) (show 0 < n by omega) ((g_0 cy ad) _)) rfl 5 (by decide) hf38 (fun _ h9 => h9) rfl dX5_sign_96 ?_
            refine va_callv (va_runV (As := [.int (nI (vN pl)), .int (nI (vN sec)), .ref (ad 5)]) (rest := []) ⟨hx, hb, hml, hown, hts⟩ (kX0_prove l (qc := qc) (ks := 13 + 2 * vN rg) (bB := tB (M (29 + 18 * vN tp) 0)) (v := M (29 + 18 * vN tp) 0) (mo := mo) hDc (kr_r cy ad (show vN rg < 8 by omega)) (by omega) (by omega) hz hz6 (sg_5 cy ad) (by omega) (by omega) (by omega) (by omega) (by omega) (by omega) hy (tB_lt _) (by rw [vN_toInt]; omega) (by rw [vN_toInt]; omega)) (cwV 3 hts gX5_sign_X0_prove rfl rfl rfl (by decide +kernel) ⟨Nat.le_of_ble_eq_true rfl, Nat.le_of_ble_eq_true rfl⟩) (rw_pv (ci := 0) (q := (RX0, TX0, 4)) hE hP hS hA rfl wd_ex) rfl rfl hl.1 rfl (lv_room (Nat.le_of_ble_eq_true rfl)) dX5_sign_99 ⟨Nat.le_of_ble_eq_true rfl, Nat.le_of_ble_eq_true rfl⟩) hS (fun q _ h => h) (fun q h => h) (fun u_99 t H1 locs ht hvm hr_99 hB_99 hz1 hk1 hS => ?_)
            have hP : va_P D vwCl (wd cy ad n u_99 ++ [(qc, .inr (0, [.ref (ad (13 + 2 * vN rg)), .int (M (29 + 18 * vN tp) 0), .int (nI (tB (M (29 + 18 * vN tp) 0))), .int mo]))]) H1 := by rw [← ht]; exact hB_99
            clear hB_99 ht hvm hz1 hk1
            generalize H1 = H at hP hS ⊢
            have hP := va_pre hP
            refine lv_aload_n hx hb dX5_sign_102 rfl (lv_at hl 2 rfl) ?_
            refine va_get (D := D) (ci := 4) (v := .ref (ad 5)) (C := RX5) (T := TX5) (N := 11) hx hb hts hin_RX5 hown hE.1 hP 0 (wd_at (M := u_99) (show 0 < n by omega) ((g_0 cy ad) _)) rfl 5 (by decide) hf38 (fun _ h9 => h9) rfl dX5_sign_103 ?_
            refine va_getN (D := D) (ci := 2) (v := .ref (ad (5 + 1))) (C := RX3) (T := TX3) (N := 4) hx hb hts hin_RX3 hown hE.1 hP 5 (wd_at (M := u_99) (show 5 < n by omega) ((sg_5 cy ad).1 _)) rfl 0 (by decide) hf141 (fun _ h9 => h9) rfl dX5_sign_106 ?_
            refine lv_iconst (v := (nI 1)) hx hb dX5_sign_109 (by decide) ?_
            refine wr_ald (cy := cy) (ad := ad) (ex := []) hx hb hE.1 hP (5 + 1) (show 5 + 1 < n by omega) ((sg_5 cy ad).2 _) 1 rfl (by omega) (by decide) dX5_sign_110 ?_
            refine vx_ret ?_
            refine W.widen (k := 3) (n := 18) (Nat.le_of_ble_eq_true rfl) (Nat.le_of_ble_eq_true rfl) ?_
            exact W.iret (v := (u_99 (5 + 1) 1)) hx hb hr (fun t ht hW => ⟨⟨(u_99 (5 + 1) 1), u_99, rfl, ⟨⟨⟨hrg0, hrg1⟩, ⟨htp0, htp1⟩, ⟨by omega, by omega⟩, hq_39, c_58⟩, rfl, hr_99⟩, (by show va_P D vwCl _ t.heap; rw [ht]; exact hP)⟩, hS.F ht⟩) hS.2.2 dX5_sign_111
          · obtain ⟨sa, hstr⟩ := hX.2.2.1 (127, "not the secret of the key there") (List.mem_of_getElem? (i := 7) rfl)
            exact vx_throwS (text := "not the secret of the key there") (names := exN) (ik := 68) (is := 127) (ic := 72) (A := A) hx hb hlt hown ex_c68 ex_n (hts (.classLink RX5 68 "java/lang/IllegalArgumentException") (by decide +kernel)) (hts (.initialized "java/lang/IllegalArgumentException") (by decide +kernel)) hstr (vx_hat (fun w h => hts w (List.mem_cons_of_mem _ (List.mem_append_right _ h))) ex_b68 (ex_u hX (List.mem_of_getElem? (i := 0) rfl))) ex_g68 hX.1 hX.2.1 hS (hl.1.trans hml.symm) dX5_sign_61 dX5_sign_64 dX5_sign_65 dX5_sign_67 dX5_sign_70 (fun x h => (htab x h).elim) (Nat.le_of_ble_eq_true rfl) (Nat.le_of_ble_eq_true rfl) (Nat.le_of_ble_eq_true rfl) (Nat.le_of_ble_eq_true rfl) hlocks (fun t h1 h2 h3 => ⟨M, trivial, ⟨⟨rfl, fun h => c_58 h.2.2.2.2, rfl⟩, va_keep hP h3⟩, vx_fin hS h2 h3⟩) hS.2.2 (Nat.le_of_ble_eq_true rfl) (Nat.le_of_ble_eq_true rfl)
      · refine lv_if_eq (tgt := 61) hx hb dX5_sign_42 (by decide) (fun c_42 => ?_) (fun c_42 => ?_)
        · have c_42 := (o_eq0 _).mp c_42
          obtain ⟨sa, hstr⟩ := hX.2.2.1 (127, "not the secret of the key there") (List.mem_of_getElem? (i := 7) rfl)
          exact vx_throwS (text := "not the secret of the key there") (names := exN) (ik := 68) (is := 127) (ic := 72) (A := A) hx hb hlt hown ex_c68 ex_n (hts (.classLink RX5 68 "java/lang/IllegalArgumentException") (by decide +kernel)) (hts (.initialized "java/lang/IllegalArgumentException") (by decide +kernel)) hstr (vx_hat (fun w h => hts w (List.mem_cons_of_mem _ (List.mem_append_right _ h))) ex_b68 (ex_u hX (List.mem_of_getElem? (i := 0) rfl))) ex_g68 hX.1 hX.2.1 hS (hl.1.trans hml.symm) dX5_sign_61 dX5_sign_64 dX5_sign_65 dX5_sign_67 dX5_sign_70 (fun x h => (htab x h).elim) (Nat.le_of_ble_eq_true rfl) (Nat.le_of_ble_eq_true rfl) (Nat.le_of_ble_eq_true rfl) (Nat.le_of_ble_eq_true rfl) hlocks (fun t h1 h2 h3 => ⟨M, trivial, ⟨⟨rfl, fun h => hq_39 h.2.2.2.1, rfl⟩, va_keep hP h3⟩, vx_fin hS h2 h3⟩) hS.2.2 (Nat.le_of_ble_eq_true rfl) (Nat.le_of_ble_eq_true rfl)
        · exact absurd c_42 (by decide)
    · have c_24 := mt (o_gt (by omega) _).mpr c_24
      obtain ⟨sa, hstr⟩ := hX.2.2.1 (122, "no place in the ring") (List.mem_of_getElem? (i := 6) rfl)
      exact vx_throwS (text := "no place in the ring") (names := exN) (ik := 68) (is := 122) (ic := 72) (A := A) hx hb hlt hown ex_c68 ex_n (hts (.classLink RX5 68 "java/lang/IllegalArgumentException") (by decide +kernel)) (hts (.initialized "java/lang/IllegalArgumentException") (by decide +kernel)) hstr (vx_hat (fun w h => hts w (List.mem_cons_of_mem _ (List.mem_append_right _ h))) ex_b68 (ex_u hX (List.mem_of_getElem? (i := 0) rfl))) ex_g68 hX.1 hX.2.1 hS (hl.1.trans hml.symm) dX5_sign_27 dX5_sign_30 dX5_sign_31 dX5_sign_33 dX5_sign_36 (fun x h => (htab x h).elim) (Nat.le_of_ble_eq_true rfl) (Nat.le_of_ble_eq_true rfl) (Nat.le_of_ble_eq_true rfl) (Nat.le_of_ble_eq_true rfl) hlocks (fun t h1 h2 h3 => ⟨M, trivial, ⟨⟨rfl, fun h => by have := h.2.2.1.1; have := h.2.2.1.2; omega, rfl⟩, va_keep hP h3⟩, vx_fin hS h2 h3⟩) hS.2.2 (Nat.le_of_ble_eq_true rfl) (Nat.le_of_ble_eq_true rfl)
