set_option maxHeartbeats 4000000 in
set_option maxRecDepth 100000 in
/-- submit -/
theorem kX5_submit (l : Launch) (hlt : l.stackTraces = false) {D : va_G} {cy ad : Nat → Nat} {n : Nat} {M : Mm} {A : Nat → Prop} (hD : ∀ M, va_D A (wd cy ad n M ++ [])) (hn : 137 ≤ n) {rc tc : Nat} {rs : Nat → Nat} {rg tp : Int32} (hrc : M 0 2 = nI rc) (hrc8 : rc ≤ 8) (htc : M 0 4 = nI tc) (htc6 : tc ≤ 6) (hrg : rgP rc rs M) (hbs : bsP tc M) {mo : Int32} {sc : Nat → Nat} (hsc : ∀ t, t < tc → M (29 + 18 * t) 4 = nI (sc t) ∧ sc t ≤ 8) : vx_Met l yX5_submit wsX5_submit ({ frames := 7, cells := 4, slots := 22, locals := 107 }) (va_Pc [.ref (ad 0), .int rg, .int tp, .int mo] (TW D cy (wd cy ad n M ++ []) A)) (va_Qi (S := Mm) (fun r u => (0 ≤ rg.toInt ∧ rg.toInt < (rc : Int)) ∧ (0 ≤ tp.toInt ∧ tp.toInt < (tc : Int)) ∧ M (29 + 18 * vN tp) 2 = 0 ∧ (M 5 1 = nI (2 + rs (vN rg)) ∧ gdP (rs (vN rg)) (M (13 + 2 * vN rg + 1)) (M (29 + 18 * vN tp) 0) mo (tB (M (29 + 18 * vN tp) 0)) (M (5 + 1))) ∧ ¬ (∃ j, j < sc (vN tp) ∧ j < sc (vN tp) ∧ M (29 + 18 * vN tp + 2 + 2 * j + 1) 1 = M (5 + 1) 1) ∧ sc (vN tp) < 8 ∧ r = nI (sc (vN tp) + 1) ∧ u = st (st (st (va_up (st M (29 + 18 * vN tp + 2 + 2 * sc (vN tp)) 1 (nI (2 + rs (vN rg)))) (29 + 18 * vN tp + 2 + 2 * sc (vN tp) + 1) (va_cpy (st M (29 + 18 * vN tp + 2 + 2 * sc (vN tp)) 1 (nI (2 + rs (vN rg))) (5 + 1)) (st M (29 + 18 * vN tp + 2 + 2 * sc (vN tp)) 1 (nI (2 + rs (vN rg))) (29 + 18 * vN tp + 2 + 2 * sc (vN tp) + 1)) 0 0 (2 + rs (vN rg)))) (29 + 18 * vN tp + 2 + 2 * sc (vN tp)) 2 rg) (29 + 18 * vN tp + 2 + 2 * sc (vN tp)) 3 mo) (29 + 18 * vN tp) 4 (nI (sc (vN tp) + 1))) (fun u t => va_P D vwCl (wd cy ad n u ++ []) t.heap) A) (vx_X (S := Mm) (fun _ => True) (fun E u t => (((E = "java/lang/IllegalArgumentException" ∧ ¬ ((0 ≤ rg.toInt ∧ rg.toInt < (rc : Int)) ∧ (0 ≤ tp.toInt ∧ tp.toInt < (tc : Int)))) ∨ (E = "java/lang/IllegalStateException" ∧ (0 ≤ rg.toInt ∧ rg.toInt < (rc : Int)) ∧ (0 ≤ tp.toInt ∧ tp.toInt < (tc : Int)) ∧ ¬ M (29 + 18 * vN tp) 2 = 0) ∨ (E = "java/lang/IllegalArgumentException" ∧ (0 ≤ rg.toInt ∧ rg.toInt < (rc : Int)) ∧ (0 ≤ tp.toInt ∧ tp.toInt < (tc : Int)) ∧ M (29 + 18 * vN tp) 2 = 0 ∧ ¬ (M 5 1 = nI (2 + rs (vN rg)) ∧ gdP (rs (vN rg)) (M (13 + 2 * vN rg + 1)) (M (29 + 18 * vN tp) 0) mo (tB (M (29 + 18 * vN tp) 0)) (M (5 + 1)))) ∨ (E = "java/lang/UnsupportedOperationException" ∧ (0 ≤ rg.toInt ∧ rg.toInt < (rc : Int)) ∧ (0 ≤ tp.toInt ∧ tp.toInt < (tc : Int)) ∧ M (29 + 18 * vN tp) 2 = 0 ∧ (M 5 1 = nI (2 + rs (vN rg)) ∧ gdP (rs (vN rg)) (M (13 + 2 * vN rg + 1)) (M (29 + 18 * vN tp) 0) mo (tB (M (29 + 18 * vN tp) 0)) (M (5 + 1))) ∧ ((∃ j, j < sc (vN tp) ∧ j < sc (vN tp) ∧ M (29 + 18 * vN tp + 2 + 2 * j + 1) 1 = M (5 + 1) 1) ∨ sc (vN tp) = 8))) ∧ u = M) ∧ va_P D vwCl (wd cy ad n u ++ []) t.heap) A) 4 22 A := by
  refine vx_ofW (cc := cX5_submit) (maxL := 6) (ret := (some .int)) (by decide) rfl ?_
  intro p e s m args below meth c s₁ B hml htab hv
  obtain ⟨rfl, hP, hE, hA, hX⟩ := hv
  have hx := B.exec
  have hb := B.bytes
  have hr := B.returns
  have hts := atoms_spec (ws := wsX5_submit) B.pre
  have hown : s.vm.findClass RX5 = some m.cls := findClass_of_methodNamed B.named
  have hlocks := B.notSynchronized
  have hf115 : (Cond.fieldLinkNest RX5 115 "RingPetition$Topic" "topicBase" "I" "RingPetition").before #[.ref (ad 0), .int rg, .int tp, .int mo] s = true := va_Nw.use rfl (hE.2 _ (List.mem_of_getElem? (i := 16) rfl))
  have hf131 : (Cond.fieldLinkNest RX5 131 "RingPetition$Topic" "value" "I" "RingPetition").before #[.ref (ad 0), .int rg, .int tp, .int mo] s = true := va_Nw.use rfl (hE.2 _ (List.mem_of_getElem? (i := 15) rfl))
  have hf141 : (Cond.fieldLinkNest RX5 141 "RingPetition$Signature" "numbers" "[I" "RingPetition").before #[.ref (ad 0), .int rg, .int tp, .int mo] s = true := va_Nw.use rfl (hE.2 _ (List.mem_of_getElem? (i := 7) rfl))
  have hf152 : (Cond.fieldLinkNest RX5 152 "RingPetition$Topic" "closed" "Z" "RingPetition").before #[.ref (ad 0), .int rg, .int tp, .int mo] s = true := va_Nw.use rfl (hE.2 _ (List.mem_of_getElem? (i := 17) rfl))
  have hf164 : (Cond.fieldLinkNest RX5 164 "RingPetition$Topic" "storedCount" "I" "RingPetition").before #[.ref (ad 0), .int rg, .int tp, .int mo] s = true := va_Nw.use rfl (hE.2 _ (List.mem_of_getElem? (i := 19) rfl))
  have hf38 : (Cond.fieldLink RX5 38 "RingPetition" "drafted" "LRingPetition$Signature;").before #[.ref (ad 0), .int rg, .int tp, .int mo] s = true := hts _ (by decide +kernel)
  have hin_RX0 : ∀ w ∈ u_ws RX0 TX0 4, w ∈ wsX5_submit := by decide +kernel
  have hin_RX3 : ∀ w ∈ u_ws RX3 TX3 4, w ∈ wsX5_submit := by decide +kernel
  have hin_RX4 : ∀ w ∈ u_ws RX4 TX4 5, w ∈ wsX5_submit := by decide +kernel
  have hin_RX5 : ∀ w ∈ u_ws RX5 TX5 11, w ∈ wsX5_submit := by decide +kernel
  have hS : va_S A s.heap s.heap [] := va_S.rf
  have hl := lv_entry ([.ref (ad 0), .int rg, .int tp, .int mo]) (n := 6) (Nat.le_of_ble_eq_true rfl)
  rw [lg_entry_eq]
  generalize (lg_sl ([.ref (ad 0), .int rg, .int tp, .int mo]) ++ List.replicate (6 - (lg_sl ([.ref (ad 0), .int rg, .int tp, .int mo])).length) Slot.unset).toArray = ls at hl ⊢
  have hl : lv_has ls 6 [(0, .ref (ad 0)), (1, .int rg), (2, .int tp), (3, .int mo)] := hl
  refine lv_aload_n hx hb dX5_submit_0 rfl (lv_at hl 0 rfl) ?_
  refine lv_iload_n hx hb dX5_submit_1 rfl (lv_at hl 1 rfl) ?_
  refine vx_callq (vx_runV (As := [.int rg]) (rest := []) ⟨hx, hb, hml, hown, hts⟩ (kX5_knownRing l hlt hD hn hrc hrc8) (cwV 1 hts gX5_submit_X5_knownRing rfl rfl rfl (by decide +kernel) ⟨Nat.le_of_ble_eq_true rfl, Nat.le_of_ble_eq_true rfl⟩) (tw_pv (ci := 4) (q := (RX5, TX5, 11)) hE hP hS hA hX rfl (wd_at (M := M) (show 0 < n by omega) ((g_0 cy ad) _))) rfl rfl hl.1 rfl (lv_room (Nat.le_of_ble_eq_true rfl)) dX5_submit_2 ⟨Nat.le_of_ble_eq_true rfl, Nat.le_of_ble_eq_true rfl⟩) hS (fun q _ h => h) (fun q h => h) (fun q _ h => h) (fun E9 ce q9 u t H1 locs1 ht hvm hpx hBX hz1 hk1 hS hce hcv hcl => ?_) (fun r_2 u_2 t H1 locs ht hvm hr_2 hB_2 hz1 hk1 hS => ?_)
  · exact vx_out (fun x h => (htab x h).elim) hlocks hce hcv hcl (fun t2 h1 h2 => ⟨u, trivial, ⟨⟨Or.inl ⟨hBX.1.1, fun h => by have := h.1.1; have := h.1.2; have := hBX.1.2.1; omega⟩, hBX.1.2.2⟩, by rw [h1, ← ht]; exact hBX.2⟩, hS.F h1⟩) hS.2.2 (Nat.le_of_ble_eq_true rfl) (Nat.le_of_ble_eq_true rfl)
  have hP : va_P D vwCl (wd cy ad n M ++ []) H1 := by rw [← ht]; exact hB_2
  clear hB_2 ht hvm hz1 hk1
  generalize H1 = H at hP hS ⊢
  obtain ⟨hrg0, hrg1, rfl⟩ := hr_2
  have hr8 : vN rg < rc := by rw [vN_toInt]; omega
  obtain ⟨hz, hz6, hy⟩ := hrg (vN rg) hr8
  refine lv_astore (lv' := [(4, .ref (ad (13 + 2 * vN rg))), (0, .ref (ad 0)), (1, .int rg), (2, .int tp), (3, .int mo)]) hx hb dX5_submit_5 hl (by decide) rfl (fun ls hl => ?_)
  refine lv_aload_n hx hb dX5_submit_7 rfl (lv_at hl 1 rfl) ?_
  refine lv_iload_n hx hb dX5_submit_8 rfl (lv_at hl 3 rfl) ?_
  refine vx_callq (vx_runV (As := [.int tp]) (rest := []) ⟨hx, hb, hml, hown, hts⟩ (kX5_knownTopic l hlt hD hn htc htc6) (cwV 1 hts gX5_submit_X5_knownTopic rfl rfl rfl (by decide +kernel) ⟨Nat.le_of_ble_eq_true rfl, Nat.le_of_ble_eq_true rfl⟩) (tw_pv (ci := 4) (q := (RX5, TX5, 11)) hE hP hS hA hX rfl (wd_at (M := M) (show 0 < n by omega) ((g_0 cy ad) _))) rfl rfl hl.1 rfl (lv_room (Nat.le_of_ble_eq_true rfl)) dX5_submit_9 ⟨Nat.le_of_ble_eq_true rfl, Nat.le_of_ble_eq_true rfl⟩) hS (fun q _ h => h) (fun q h => h) (fun q _ h => h) (fun E9 ce q9 u t H1 locs1 ht hvm hpx hBX hz1 hk1 hS hce hcv hcl => ?_) (fun r_9 u_9 t H1 locs ht hvm hr_9 hB_9 hz1 hk1 hS => ?_)
  · exact vx_out (fun x h => (htab x h).elim) hlocks hce hcv hcl (fun t2 h1 h2 => ⟨u, trivial, ⟨⟨Or.inl ⟨hBX.1.1, fun h => by have := h.2.1; have := h.2.2; have := hBX.1.2.1; omega⟩, hBX.1.2.2⟩, by rw [h1, ← ht]; exact hBX.2⟩, hS.F h1⟩) hS.2.2 (Nat.le_of_ble_eq_true rfl) (Nat.le_of_ble_eq_true rfl)
  have hP : va_P D vwCl (wd cy ad n M ++ []) H1 := by rw [← ht]; exact hB_9
  clear hB_9 ht hvm hz1 hk1
  generalize H1 = H at hP hS ⊢
  obtain ⟨htp0, htp1, rfl⟩ := hr_9
  have ht6 : vN tp < tc := by rw [vN_toInt]; omega
  have hbt := hbs (vN tp) ht6
  refine lv_astore (lv' := [(5, .ref (ad (29 + 18 * vN tp))), (4, .ref (ad (13 + 2 * vN rg))), (0, .ref (ad 0)), (1, .int rg), (2, .int tp), (3, .int mo)]) hx hb dX5_submit_12 hl (by decide) rfl (fun ls hl => ?_)
  have hsct := hsc (vN tp) ht6
  refine lv_aload hx hb dX5_submit_14 (lv_at hl 0 rfl) ?_
  refine va_getN (D := D) (ci := 3) (v := .int (M (29 + 18 * vN tp) 2)) (C := RX4) (T := TX4) (N := 5) hx hb hts hin_RX4 hown hE.1 hP (29 + 18 * vN tp) (wd_at (M := M) (show 29 + 18 * vN tp < n by omega) ((tp_t cy ad (show vN tp < 6 by omega)).1 _)) rfl 2 (by decide) hf152 (fun _ h9 => h9) rfl dX5_submit_16 ?_
  refine lv_if_eq (tgt := 32) hx hb dX5_submit_19 (by decide) (fun c_19 => ?_) (fun c_19 => ?_)
  · refine wr_newC (cy := cy) (ad := ad) hx hb hts hin_RX0 hown (hts (.classLink RX5 129 RX0) (by decide +kernel)) (hts (.instantiable RX0 4) (by decide +kernel)) (hts (.initialized RX0) (by decide +kernel)) hE.1 hP (hD _) hS hA (Nat.le_of_ble_eq_true rfl) (Nat.le_of_ble_eq_true rfl) dX5_submit_32 (fun qc H hP hDq hS => ?_)
    refine lv_dup hx hb dX5_submit_35 rfl ?_
    refine lv_aload hx hb dX5_submit_36 (lv_at hl 1 rfl) ?_
    refine lv_aload hx hb dX5_submit_38 (lv_at hl 0 rfl) ?_
    refine va_getN (D := D) (ci := 3) (v := .int (M (29 + 18 * vN tp) 0)) (C := RX4) (T := TX4) (N := 5) hx hb hts hin_RX4 hown hE.1 hP (29 + 18 * vN tp) (wd_at (M := M) (show 29 + 18 * vN tp < n by omega) ((tp_t cy ad (show vN tp < 6 by omega)).1 _)) rfl 0 (by decide) hf131 (fun _ h9 => h9) rfl dX5_submit_40 ?_
    refine lv_aload hx hb dX5_submit_43 (lv_at hl 0 rfl) ?_
    refine va_getN (D := D) (ci := 3) (v := .int (M (29 + 18 * vN tp) 1)) (C := RX4) (T := TX4) (N := 5) hx hb hts hin_RX4 hown hE.1 hP (29 + 18 * vN tp) (wd_at (M := M) (show 29 + 18 * vN tp < n by omega) ((tp_t cy ad (show vN tp < 6 by omega)).1 _)) rfl 1 (by decide) hf115 (fun _ h9 => h9) rfl dX5_submit_45 ?_
    refine wr_top (y := (nI (tB (M (29 + 18 * vN tp) 0)))) hbt ?_
    refine lv_iload_n hx hb dX5_submit_48 rfl (lv_at hl 5 rfl) ?_
    refine va_callv (va_runI (As := [.ref (ad (13 + 2 * vN rg)), .int (M (29 + 18 * vN tp) 0), .int (nI (tB (M (29 + 18 * vN tp) 0))), .int mo]) (rest := [.ref qc]) ⟨hx, hb, hml, hown, hts⟩ (kX0_init l (ks := 13 + 2 * vN rg) hDq) (cwI 4 hts ggX5_submit_X0_init rfl rfl rfl (hts (.initialized RX0) (by decide +kernel)) (hts (.methodLink RX5 134 yX0_init) (by decide +kernel)) (hts (.instanceMethod yX0_init) (by decide +kernel)) rfl (by decide +kernel) ⟨Nat.le_of_ble_eq_true rfl, Nat.le_of_ble_eq_true rfl⟩) (rw_ps hE hP hS hA) rfl rfl hl.1 rfl (lv_room (Nat.le_of_ble_eq_true rfl)) dX5_submit_49 ⟨Nat.le_of_ble_eq_true rfl, Nat.le_of_ble_eq_true rfl⟩) hS (fun q _ h => h) (fun q h => h) (fun u_49 t H1 locs ht hvm hr_49 hB_49 hz1 hk1 hS => ?_)
    have hP : va_P D vwCl (wd cy ad n M ++ [(qc, .inr (0, [.ref (ad (13 + 2 * vN rg)), .int (M (29 + 18 * vN tp) 0), .int (nI (tB (M (29 + 18 * vN tp) 0))), .int mo]))]) H1 := by rw [← ht]; exact hB_49
    clear hB_49 ht hvm hz1 hk1 hr_49
    generalize H1 = H at hP hS ⊢
    have hDc : ∀ M9, va_D A (wd cy ad n M9 ++ [(qc, .inr (0, [.ref (ad (13 + 2 * vN rg)), .int (M (29 + 18 * vN tp) 0), .int (nI (tB (M (29 + 18 * vN tp) 0))), .int mo]))]) := fun _ => wd_Dx hDq
    refine lv_aload_n hx hb dX5_submit_52 rfl (lv_at hl 2 rfl) ?_
    refine va_get (D := D) (ci := 4) (v := .ref (ad 5)) (C := RX5) (T := TX5) (N := 11) hx hb hts hin_RX5 hown hE.1 hP 0 (wd_at (M := M) (show 0 < n by omega) ((g_0 cy ad) _)) rfl 5 (by decide) hf38 (fun _ h9 => h9) rfl dX5_submit_53 ?_
    refine vp_callSi (W.runV (As := [.ref (ad 5)]) (rest := []) ⟨hx, hb, hml, hown, hts⟩ (kX0_isProvedBy l (kr_r cy ad (show vN rg < 8 by omega)) (by omega) (by omega) hz hz6 (sg_5 cy ad) (by omega) (by omega) hy (tB_lt _)) (cwV 1 hts gX5_submit_X0_isProvedBy rfl rfl rfl (by decide +kernel) ⟨Nat.le_of_ble_eq_true rfl, Nat.le_of_ble_eq_true rfl⟩) (ro_pv (ci := 0) (q := (RX0, TX0, 4)) hE hP rfl wd_ex) rfl rfl hl.1 rfl (lv_room (Nat.le_of_ble_eq_true rfl)) dX5_submit_56 ⟨Nat.le_of_ble_eq_true rfl, Nat.le_of_ble_eq_true rfl⟩) (fun r_56 hr_56 => ?_)
    rcases hr_56 with ⟨hq_56, rfl⟩ | ⟨hq_56, rfl⟩
    · refine lv_if_ne (tgt := 72) hx hb dX5_submit_59 (by decide) (fun c_59 => ?_) (fun c_59 => ?_)
      · have c_59 := mt (o_eq0 _).mpr c_59
        refine lv_aload hx hb dX5_submit_72 (lv_at hl 0 rfl) ?_
        refine lv_aload hx hb dX5_submit_74 (lv_at hl 0 rfl) ?_
        refine va_getN (D := D) (ci := 3) (v := .int (M (29 + 18 * vN tp) 4)) (C := RX4) (T := TX4) (N := 5) hx hb hts hin_RX4 hown hE.1 hP (29 + 18 * vN tp) (wd_at (M := M) (show 29 + 18 * vN tp < n by omega) ((tp_t cy ad (show vN tp < 6 by omega)).1 _)) rfl 4 (by decide) hf164 (fun _ h9 => h9) rfl dX5_submit_76 ?_
        refine wr_top (y := (nI (sc (vN tp)))) hsct.1 ?_
        refine lv_aload_n hx hb dX5_submit_79 rfl (lv_at hl 2 rfl) ?_
        refine va_get (D := D) (ci := 4) (v := .ref (ad 5)) (C := RX5) (T := TX5) (N := 11) hx hb hts hin_RX5 hown hE.1 hP 0 (wd_at (M := M) (show 0 < n by omega) ((g_0 cy ad) _)) rfl 5 (by decide) hf38 (fun _ h9 => h9) rfl dX5_submit_80 ?_
        refine va_getN (D := D) (ci := 2) (v := .ref (ad (5 + 1))) (C := RX3) (T := TX3) (N := 4) hx hb hts hin_RX3 hown hE.1 hP 5 (wd_at (M := M) (show 5 < n by omega) ((sg_5 cy ad).1 _)) rfl 0 (by decide) hf141 (fun _ h9 => h9) rfl dX5_submit_83 ?_
        refine lv_iconst (v := (nI 1)) hx hb dX5_submit_86 (by decide) ?_
        refine wr_ald (cy := cy) (ad := ad) (ex := [(qc, .inr (0, [.ref (ad (13 + 2 * vN rg)), .int (M (29 + 18 * vN tp) 0), .int (nI (tB (M (29 + 18 * vN tp) 0))), .int mo]))]) hx hb hE.1 hP (5 + 1) (show 5 + 1 < n by omega) ((sg_5 cy ad).2 _) 1 rfl (by omega) (by decide) dX5_submit_87 ?_
        refine vp_callSi (W.runV (As := [.int (nI (sc (vN tp))), .int (M (5 + 1) 1)]) (rest := []) ⟨hx, hb, hml, hown, hts⟩ (kX4_hasAmongFirst l (tp_t cy ad (show vN tp < 6 by omega)) (by omega) hsct.1 hsct.2 hsct.2) (cwV 2 hts gX5_submit_X4_hasAmongFirst rfl rfl rfl (by decide +kernel) ⟨Nat.le_of_ble_eq_true rfl, Nat.le_of_ble_eq_true rfl⟩) (ro_pv (ci := 3) (q := (RX4, TX4, 5)) hE hP rfl (wd_at (M := M) (show 29 + 18 * vN tp < n by omega) ((tp_t cy ad (show vN tp < 6 by omega)).1 _))) rfl rfl hl.1 rfl (lv_room (Nat.le_of_ble_eq_true rfl)) dX5_submit_88 ⟨Nat.le_of_ble_eq_true rfl, Nat.le_of_ble_eq_true rfl⟩) (fun r_88 hr_88 => ?_)
        rcases hr_88 with ⟨hq_88, rfl⟩ | ⟨hq_88, rfl⟩
        · refine lv_if_ne (tgt := 104) hx hb dX5_submit_91 (by decide) (fun c_91 => ?_) (fun c_91 => ?_)
          · have c_91 := mt (o_eq0 _).mpr c_91
            obtain ⟨sa, hstr⟩ := hX.2.2.1 (173, "the tag is stored, or there are 8 signatures") (List.mem_of_getElem? (i := 11) rfl)
            exact vx_throwS (text := "the tag is stored, or there are 8 signatures") (names := exN) (ik := 171) (is := 173) (ic := 175) (A := A) hx hb hlt hown ex_c171 ex_n (hts (.classLink RX5 171 "java/lang/UnsupportedOperationException") (by decide +kernel)) (hts (.initialized "java/lang/UnsupportedOperationException") (by decide +kernel)) hstr (vx_hat (fun w h => hts w (List.mem_cons_of_mem _ (List.mem_append_right _ h))) ex_b171 (ex_u hX (List.mem_of_getElem? (i := 3) rfl))) ex_g171 hX.1 hX.2.1 hS (hl.1.trans hml.symm) dX5_submit_104 dX5_submit_107 dX5_submit_108 dX5_submit_110 dX5_submit_113 (fun x h => (htab x h).elim) (Nat.le_of_ble_eq_true rfl) (Nat.le_of_ble_eq_true rfl) (Nat.le_of_ble_eq_true rfl) (Nat.le_of_ble_eq_true rfl) hlocks (fun t h1 h2 h3 => ⟨M, trivial, ⟨⟨Or.inr (Or.inr (Or.inr ⟨rfl, ⟨hrg0, hrg1⟩, ⟨htp0, htp1⟩, c_19, hq_56, Or.inl hq_88⟩)), rfl⟩, va_keep (va_pre hP) h3⟩, vx_fin hS h2 h3⟩) hS.2.2 (Nat.le_of_ble_eq_true rfl) (Nat.le_of_ble_eq_true rfl)
          · exact absurd c_91 (by decide)
        · refine lv_if_ne (tgt := 104) hx hb dX5_submit_91 (by decide) (fun c_91 => ?_) (fun c_91 => ?_)
          · exact absurd c_91 (by decide)
          · have c_91 := (o_eq0 _).mp c_91
            refine lv_aload hx hb dX5_submit_94 (lv_at hl 0 rfl) ?_
            refine va_getN (D := D) (ci := 3) (v := .int (M (29 + 18 * vN tp) 4)) (C := RX4) (T := TX4) (N := 5) hx hb hts hin_RX4 hown hE.1 hP (29 + 18 * vN tp) (wd_at (M := M) (show 29 + 18 * vN tp < n by omega) ((tp_t cy ad (show vN tp < 6 by omega)).1 _)) rfl 4 (by decide) hf164 (fun _ h9 => h9) rfl dX5_submit_96 ?_
            refine wr_top (y := (nI (sc (vN tp)))) hsct.1 ?_
            refine lv_bipush (v := (nI 8)) hx hb dX5_submit_99 (by decide) ?_
            refine lv_icmp_lt (tgt := 114) hx hb dX5_submit_101 (by decide) (fun c_101 => ?_) (fun c_101 => ?_)
            · have c_101 := (nI_ltI (by omega) (by omega)).mp c_101
              refine lv_aload hx hb dX5_submit_114 (lv_at hl 0 rfl) ?_
              refine lv_aload_n hx hb dX5_submit_116 rfl (lv_at hl 2 rfl) ?_
              refine va_get (D := D) (ci := 4) (v := .ref (ad 5)) (C := RX5) (T := TX5) (N := 11) hx hb hts hin_RX5 hown hE.1 hP 0 (wd_at (M := M) (show 0 < n by omega) ((g_0 cy ad) _)) rfl 5 (by decide) hf38 (fun _ h9 => h9) rfl dX5_submit_117 ?_
              refine lv_iload_n hx hb dX5_submit_120 rfl (lv_at hl 3 rfl) ?_
              refine lv_iload_n hx hb dX5_submit_121 rfl (lv_at hl 5 rfl) ?_
              have hd2 := hq_56.1
              refine va_callv (va_runV (As := [.ref (ad 5), .int rg, .int mo]) (rest := []) ⟨hx, hb, hml, hown, hts⟩ (kX4_store l hDc (k := 29 + 18 * vN tp) (tp_t cy ad (show vN tp < 6 by omega)) (by omega) hsct.1 (by omega) (sg_5 cy ad) (by omega) (by omega) (by omega) hd2 (by omega)) (cwV 3 hts gX5_submit_X4_store rfl rfl rfl (by decide +kernel) ⟨Nat.le_of_ble_eq_true rfl, Nat.le_of_ble_eq_true rfl⟩) (rw_pv (ci := 3) (q := (RX4, TX4, 5)) hE hP hS hA rfl (wd_at (M := M) (show 29 + 18 * vN tp < n by omega) ((tp_t cy ad (show vN tp < 6 by omega)).1 _))) rfl rfl hl.1 rfl (lv_room (Nat.le_of_ble_eq_true rfl)) dX5_submit_122 ⟨Nat.le_of_ble_eq_true rfl, Nat.le_of_ble_eq_true rfl⟩) hS (fun q _ h => h) (fun q h => h) (fun u_122 t H1 locs ht hvm hr_122 hB_122 hz1 hk1 hS => ?_)
              have hP : va_P D vwCl (wd cy ad n u_122 ++ [(qc, .inr (0, [.ref (ad (13 + 2 * vN rg)), .int (M (29 + 18 * vN tp) 0), .int (nI (tB (M (29 + 18 * vN tp) 0))), .int mo]))]) H1 := by rw [← ht]; exact hB_122
              clear hB_122 ht hvm hz1 hk1
              generalize H1 = H at hP hS ⊢
              have hP := va_pre hP
              refine lv_aload hx hb dX5_submit_125 (lv_at hl 0 rfl) ?_
              refine va_getN (D := D) (ci := 3) (v := .int (u_122 (29 + 18 * vN tp) 4)) (C := RX4) (T := TX4) (N := 5) hx hb hts hin_RX4 hown hE.1 hP (29 + 18 * vN tp) (wd_at (M := u_122) (show 29 + 18 * vN tp < n by omega) ((tp_t cy ad (show vN tp < 6 by omega)).1 _)) rfl 4 (by decide) hf164 (fun _ h9 => h9) rfl dX5_submit_127 ?_
              refine wr_top (y := (nI (sc (vN tp) + 1))) (by rw [hr_122]; exact st_s _ _ _ _) ?_
              refine vx_ret ?_
              refine W.widen (k := 4) (n := 22) (Nat.le_of_ble_eq_true rfl) (Nat.le_of_ble_eq_true rfl) ?_
              exact W.iret (v := (nI (sc (vN tp) + 1))) hx hb hr (fun t ht hW => ⟨⟨(nI (sc (vN tp) + 1)), u_122, rfl, ⟨⟨hrg0, hrg1⟩, ⟨htp0, htp1⟩, c_19, hq_56, hq_88, by omega, rfl, hr_122⟩, (by show va_P D vwCl _ t.heap; rw [ht]; exact hP)⟩, hS.F ht⟩) hS.2.2 dX5_submit_130
            · have c_101 := mt (nI_ltI (by omega) (by omega)).mpr c_101
              obtain ⟨sa, hstr⟩ := hX.2.2.1 (173, "the tag is stored, or there are 8 signatures") (List.mem_of_getElem? (i := 11) rfl)
              exact vx_throwS (text := "the tag is stored, or there are 8 signatures") (names := exN) (ik := 171) (is := 173) (ic := 175) (A := A) hx hb hlt hown ex_c171 ex_n (hts (.classLink RX5 171 "java/lang/UnsupportedOperationException") (by decide +kernel)) (hts (.initialized "java/lang/UnsupportedOperationException") (by decide +kernel)) hstr (vx_hat (fun w h => hts w (List.mem_cons_of_mem _ (List.mem_append_right _ h))) ex_b171 (ex_u hX (List.mem_of_getElem? (i := 3) rfl))) ex_g171 hX.1 hX.2.1 hS (hl.1.trans hml.symm) dX5_submit_104 dX5_submit_107 dX5_submit_108 dX5_submit_110 dX5_submit_113 (fun x h => (htab x h).elim) (Nat.le_of_ble_eq_true rfl) (Nat.le_of_ble_eq_true rfl) (Nat.le_of_ble_eq_true rfl) (Nat.le_of_ble_eq_true rfl) hlocks (fun t h1 h2 h3 => ⟨M, trivial, ⟨⟨Or.inr (Or.inr (Or.inr ⟨rfl, ⟨hrg0, hrg1⟩, ⟨htp0, htp1⟩, c_19, hq_56, Or.inr (by omega)⟩)), rfl⟩, va_keep (va_pre hP) h3⟩, vx_fin hS h2 h3⟩) hS.2.2 (Nat.le_of_ble_eq_true rfl) (Nat.le_of_ble_eq_true rfl)
      · exact absurd c_59 (by decide)
    · refine lv_if_ne (tgt := 72) hx hb dX5_submit_59 (by decide) (fun c_59 => ?_) (fun c_59 => ?_)
      · exact absurd c_59 (by decide)
      · have c_59 := (o_eq0 _).mp c_59
        obtain ⟨sa, hstr⟩ := hX.2.2.1 (162, "the draft is no good signature") (List.mem_of_getElem? (i := 10) rfl)
        exact vx_throwS (text := "the draft is no good signature") (names := exN) (ik := 68) (is := 162) (ic := 72) (A := A) hx hb hlt hown ex_c68 ex_n (hts (.classLink RX5 68 "java/lang/IllegalArgumentException") (by decide +kernel)) (hts (.initialized "java/lang/IllegalArgumentException") (by decide +kernel)) hstr (vx_hat (fun w h => hts w (List.mem_cons_of_mem _ (List.mem_append_left _ (List.mem_append_right _ h)))) ex_b68 (ex_u hX (List.mem_of_getElem? (i := 0) rfl))) ex_g68 hX.1 hX.2.1 hS (hl.1.trans hml.symm) dX5_submit_62 dX5_submit_65 dX5_submit_66 dX5_submit_68 dX5_submit_71 (fun x h => (htab x h).elim) (Nat.le_of_ble_eq_true rfl) (Nat.le_of_ble_eq_true rfl) (Nat.le_of_ble_eq_true rfl) (Nat.le_of_ble_eq_true rfl) hlocks (fun t h1 h2 h3 => ⟨M, trivial, ⟨⟨Or.inr (Or.inr (Or.inl ⟨rfl, ⟨hrg0, hrg1⟩, ⟨htp0, htp1⟩, c_19, hq_56⟩)), rfl⟩, va_keep (va_pre hP) h3⟩, vx_fin hS h2 h3⟩) hS.2.2 (Nat.le_of_ble_eq_true rfl) (Nat.le_of_ble_eq_true rfl)
  · obtain ⟨sa, hstr⟩ := hX.2.2.1 (156, "the topic is closed") (List.mem_of_getElem? (i := 9) rfl)
    exact vx_throwS (text := "the topic is closed") (names := exN) (ik := 78) (is := 156) (ic := 82) (A := A) hx hb hlt hown ex_c78 ex_n (hts (.classLink RX5 78 "java/lang/IllegalStateException") (by decide +kernel)) (hts (.initialized "java/lang/IllegalStateException") (by decide +kernel)) hstr (vx_hat (fun w h => hts w (List.mem_cons_of_mem _ (List.mem_append_left _ (List.mem_append_left _ (List.mem_append_right _ h))))) ex_b78 (ex_u hX (List.mem_of_getElem? (i := 1) rfl))) ex_g78 hX.1 hX.2.1 hS (hl.1.trans hml.symm) dX5_submit_22 dX5_submit_25 dX5_submit_26 dX5_submit_28 dX5_submit_31 (fun x h => (htab x h).elim) (Nat.le_of_ble_eq_true rfl) (Nat.le_of_ble_eq_true rfl) (Nat.le_of_ble_eq_true rfl) (Nat.le_of_ble_eq_true rfl) hlocks (fun t h1 h2 h3 => ⟨M, trivial, ⟨⟨Or.inr (Or.inl ⟨rfl, ⟨hrg0, hrg1⟩, ⟨htp0, htp1⟩, c_19⟩), rfl⟩, va_keep hP h3⟩, vx_fin hS h2 h3⟩) hS.2.2 (Nat.le_of_ble_eq_true rfl) (Nat.le_of_ble_eq_true rfl)
