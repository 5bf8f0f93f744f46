set_option maxHeartbeats 4000000 in
set_option maxRecDepth 100000 in
/-- export -/
theorem kX5_export (l : Launch) (hlt : l.stackTraces = false) {D : va_G} {cy ad : Nat → Nat} {n : Nat} {M : Mm} {A : Nat → Prop} (hD : ∀ M, va_D A (wd cy ad n M ++ [])) (hn : 137 ≤ n) {rc tc sc : Nat} {rs sr : Nat → Nat} {tp : Int32} (hrc8 : rc ≤ 8) (htc : M 0 4 = nI tc) (htc6 : tc ≤ 6) (hrg : rgP rc rs M) (hsc : M (29 + 18 * vN tp) 4 = nI sc) (hsc8 : sc ≤ 8) (hst : stP rc rs sr sc (vN tp) M) (hz6 : ∀ k, rs (sr k) ≤ 6) : vx_Met l yX5_export wsX5_export ({ frames := 7, cells := 1, slots := 6, locals := 107 }) (va_Pc [.ref (ad 0), .int tp] (TW D cy (wd cy ad n M ++ []) A)) (va_Qi (S := Mm) (fun r u => 0 ≤ tp.toInt ∧ tp.toInt < (tc : Int) ∧ r = nI (boN (fun k => rs (sr k)) sc) ∧ bdP M u (boN (fun k => rs (sr k)) sc) ((bfF (M (29 + 18 * vN tp) 0) (nI sc) (fun k => rs (sr k)) (fun k => M (13 + 2 * sr k + 1)) (fun k => M (29 + 18 * vN tp + 2 + 2 * k) 3) (fun k => M (29 + 18 * vN tp + 2 + 2 * k + 1)) sc))) (fun u t => va_P D vwCl (wd cy ad n u ++ []) t.heap) A) (vx_X (S := Mm) (fun _ => True) (fun E u t => (E = "java/lang/IllegalArgumentException" ∧ (tp.toInt < 0 ∨ (tc : Int) ≤ tp.toInt) ∧ u = M) ∧ va_P D vwCl (wd cy ad n u ++ []) t.heap) A) 1 6 A := by
  refine vx_ofW (cc := cX5_export) (maxL := 4) (ret := (some .int)) (by decide) rfl ?_
  intro p e s m args below meth c s₁ B hml htab hv
  obtain ⟨rfl, hP, hE, hA, hX⟩ := hv
  have hx := B.exec
  have hb := B.bytes
  have hr := B.returns
  have hts := atoms_spec (ws := wsX5_export) B.pre
  have hown : s.vm.findClass RX5 = some m.cls := findClass_of_methodNamed B.named
  have hlocks := B.notSynchronized
  have hf131 : (Cond.fieldLinkNest RX5 131 "RingPetition$Topic" "value" "I" "RingPetition").before #[.ref (ad 0), .int tp] s = true := va_Nw.use rfl (hE.2 _ (List.mem_of_getElem? (i := 15) rfl))
  have hf164 : (Cond.fieldLinkNest RX5 164 "RingPetition$Topic" "storedCount" "I" "RingPetition").before #[.ref (ad 0), .int tp] s = true := va_Nw.use rfl (hE.2 _ (List.mem_of_getElem? (i := 19) rfl))
  have hf46 : (Cond.fieldLink RX5 46 "RingPetition" "bundledCount" "I").before #[.ref (ad 0), .int tp] s = true := hts _ (by decide +kernel)
  have hin_RX4 : ∀ w ∈ u_ws RX4 TX4 5, w ∈ wsX5_export := by decide +kernel
  have hin_RX5 : ∀ w ∈ u_ws RX5 TX5 11, w ∈ wsX5_export := by decide +kernel
  have hS : va_S A s.heap s.heap [] := va_S.rf
  have hl := lv_entry ([.ref (ad 0), .int tp]) (n := 4) (Nat.le_of_ble_eq_true rfl)
  rw [lg_entry_eq]
  generalize (lg_sl ([.ref (ad 0), .int tp]) ++ List.replicate (4 - (lg_sl ([.ref (ad 0), .int tp])).length) Slot.unset).toArray = ls at hl ⊢
  have hl : lv_has ls 4 [(0, .ref (ad 0)), (1, .int tp)] := hl
  refine lv_aload_n hx hb dX5_export_0 rfl (lv_at hl 0 rfl) ?_
  refine lv_iload_n hx hb dX5_export_1 rfl (lv_at hl 1 rfl) ?_
  refine vx_callq (vx_runV (As := [.int tp]) (rest := []) ⟨hx, hb, hml, hown, hts⟩ (kX5_knownTopic l hlt hD hn htc htc6) (cwV 1 hts gX5_export_X5_knownTopic rfl rfl rfl (by decide +kernel) ⟨Nat.le_of_ble_eq_true rfl, Nat.le_of_ble_eq_true rfl⟩) (tw_pv (ci := 4) (q := (RX5, TX5, 11)) hE hP hS hA hX rfl (wd_at (M := M) (show 0 < n by omega) ((g_0 cy ad) _))) rfl rfl hl.1 rfl (lv_room (Nat.le_of_ble_eq_true rfl)) dX5_export_2 ⟨Nat.le_of_ble_eq_true rfl, Nat.le_of_ble_eq_true rfl⟩) hS (fun q _ h => h) (fun q h => h) (fun q _ h => h) (fun E9 ce q9 u t H1 locs1 ht hvm hpx hBX hz1 hk1 hS hce hcv hcl => ?_) (fun r_2 u_2 t H1 locs ht hvm hr_2 hB_2 hz1 hk1 hS => ?_)
  · exact vx_out (fun x h => (htab x h).elim) hlocks hce hcv hcl (fun t2 h1 h2 => ⟨u, trivial, ⟨⟨hBX.1.1, hBX.1.2.1, hBX.1.2.2⟩, by rw [h1, ← ht]; exact hBX.2⟩, hS.F h1⟩) hS.2.2 (Nat.le_of_ble_eq_true rfl) (Nat.le_of_ble_eq_true rfl)
  have hP : va_P D vwCl (wd cy ad n M ++ []) H1 := by rw [← ht]; exact hB_2
  clear hB_2 ht hvm hz1 hk1
  generalize H1 = H at hP hS ⊢
  obtain ⟨htp0, htp1, rfl⟩ := hr_2
  have ht6 : vN tp < 6 := by rw [vN_toInt]; omega
  refine lv_astore_n (lv' := [(2, .ref (ad (29 + 18 * vN tp))), (0, .ref (ad 0)), (1, .int tp)]) hx hb dX5_export_5 rfl hl (by decide) rfl (fun ls hl => ?_)
  refine lv_aload_n hx hb dX5_export_6 rfl (lv_at hl 1 rfl) ?_
  refine lv_iconst (v := (nI 0)) hx hb dX5_export_7 (by decide) ?_
  refine wr_put (cy := cy) (ad := ad) (ex := []) (ci := 4) (C := RX5) (T := TX5) (N := 11) (ty := .int) hx hb hts hin_RX5 tyX5 tyX5_ok nmX5 hown hE.1 hP hD hS 0 (show 0 < n by omega) ((g_0 cy ad) _) rfl 7 (by decide) hf46 (fun _ h9 => h9) rfl (by decide +kernel) rfl rfl (by simp) (((g_0 cy ad) _).trans (by simp [st_at])) dX5_export_8 (fun H locs hP hS => ?_)
  refine lv_aload_n hx hb dX5_export_11 rfl (lv_at hl 1 rfl) ?_
  refine lv_aload_n hx hb dX5_export_12 rfl (lv_at hl 0 rfl) ?_
  refine va_getN (D := D) (ci := 3) (v := .int ((st M 0 7 (nI 0)) (29 + 18 * vN tp) 0)) (C := RX4) (T := TX4) (N := 5) hx hb hts hin_RX4 hown hE.1 hP (29 + 18 * vN tp) (wd_at (M := (st M 0 7 (nI 0))) (show 29 + 18 * vN tp < n by omega) ((tp_t cy ad (show vN tp < 6 by omega)).1 _)) rfl 0 (by decide) hf131 (fun _ h9 => h9) rfl dX5_export_13 ?_
  refine wr_top (y := (M (29 + 18 * vN tp) 0)) (by rw [st_r _ _ _ (by omega)]) ?_
  refine va_callv (va_runV (As := [.int (M (29 + 18 * vN tp) 0)]) (rest := []) ⟨hx, hb, hml, hown, hts⟩ (kX5_addToBundle l hD hn (b := 0) (st_s _ _ _ _) (by decide)) (cwV 1 hts gX5_export_X5_addToBundle rfl rfl rfl (by decide +kernel) ⟨Nat.le_of_ble_eq_true rfl, Nat.le_of_ble_eq_true rfl⟩) (rw_pv (ci := 4) (q := (RX5, TX5, 11)) hE hP hS hA rfl (wd_at (M := (st M 0 7 (nI 0))) (show 0 < n by omega) ((g_0 cy ad) _))) rfl rfl hl.1 rfl (lv_room (Nat.le_of_ble_eq_true rfl)) dX5_export_16 ⟨Nat.le_of_ble_eq_true rfl, Nat.le_of_ble_eq_true rfl⟩) hS (fun q _ h => h) (fun q h => h) (fun u_16 t H1 locs ht hvm hr_16 hB_16 hz1 hk1 hS => ?_)
  have hP : va_P D vwCl (wd cy ad n u_16 ++ []) H1 := by rw [← ht]; exact hB_16
  clear hB_16 ht hvm hz1 hk1
  generalize H1 = H at hP hS ⊢
  subst hr_16
  have hN0 : bdP M (st M 0 7 (nI 0)) 0 (fun _ => 0) := ⟨fun a a0 a7 => st_r _ _ _ a0, fun c hc => st_c _ _ _ hc, st_s _ _ _ _, fun j hj => absurd hj (Nat.not_lt_zero j)⟩
  have hN1 := bd_put (x := (M (29 + 18 * vN tp) 0)) hN0
  refine lv_aload_n hx hb dX5_export_19 rfl (lv_at hl 1 rfl) ?_
  refine lv_aload_n hx hb dX5_export_20 rfl (lv_at hl 0 rfl) ?_
  refine va_getN (D := D) (ci := 3) (v := .int ((st (st (st M 0 7 (nI 0)) 7 0 (M (29 + 18 * vN tp) 0)) 0 7 (nI (0 + 1))) (29 + 18 * vN tp) 4)) (C := RX4) (T := TX4) (N := 5) hx hb hts hin_RX4 hown hE.1 hP (29 + 18 * vN tp) (wd_at (M := (st (st (st M 0 7 (nI 0)) 7 0 (M (29 + 18 * vN tp) 0)) 0 7 (nI (0 + 1)))) (show 29 + 18 * vN tp < n by omega) ((tp_t cy ad (show vN tp < 6 by omega)).1 _)) rfl 4 (by decide) hf164 (fun _ h9 => h9) rfl dX5_export_21 ?_
  refine wr_top (y := (nI sc)) (by rw [hN1.1 _ (by omega) (by omega)]; exact hsc) ?_
  refine va_callv (va_runV (As := [.int (nI sc)]) (rest := []) ⟨hx, hb, hml, hown, hts⟩ (kX5_addToBundle l hD hn (b := 0 + 1) hN1.2.2.1 (by decide)) (cwV 1 hts gX5_export_X5_addToBundle rfl rfl rfl (by decide +kernel) ⟨Nat.le_of_ble_eq_true rfl, Nat.le_of_ble_eq_true rfl⟩) (rw_pv (ci := 4) (q := (RX5, TX5, 11)) hE hP hS hA rfl (wd_at (M := (st (st (st M 0 7 (nI 0)) 7 0 (M (29 + 18 * vN tp) 0)) 0 7 (nI (0 + 1)))) (show 0 < n by omega) ((g_0 cy ad) _))) rfl rfl hl.1 rfl (lv_room (Nat.le_of_ble_eq_true rfl)) dX5_export_24 ⟨Nat.le_of_ble_eq_true rfl, Nat.le_of_ble_eq_true rfl⟩) hS (fun q _ h => h) (fun q h => h) (fun u_24 t H1 locs ht hvm hr_24 hB_24 hz1 hk1 hS => ?_)
  have hP : va_P D vwCl (wd cy ad n u_24 ++ []) H1 := by rw [← ht]; exact hB_24
  clear hB_24 ht hvm hz1 hk1
  generalize H1 = H at hP hS ⊢
  subst hr_24
  have hN2 := bd_put (x := nI sc) hN1
  refine lv_iconst (v := (nI 0)) hx hb dX5_export_27 (by decide) ?_
  refine lv_istore_n (lv' := [(3, .int (nI 0)), (2, .ref (ad (29 + 18 * vN tp))), (0, .ref (ad 0)), (1, .int tp)]) hx hb dX5_export_28 rfl hl (by decide) rfl (fun ls hl => ?_)
  refine wloopW (fun kq (xq : Nat × Mm) H locs ls => match xq with | (k, Mk) => kq = sc - k ∧ (k ≤ sc ∧ bdP M Mk (boN (fun k => rs (sr k)) k) ((bfF (M (29 + 18 * vN tp) 0) (nI sc) (fun k => rs (sr k)) (fun k => M (13 + 2 * sr k + 1)) (fun k => M (29 + 18 * vN tp + 2 + 2 * k) 3) (fun k => M (29 + 18 * vN tp + 2 + 2 * k + 1)) k))) ∧ va_P D vwCl (wd cy ad n Mk ++ []) H ∧ va_S A s.heap H locs ∧ lv_has ls 4 [(3, .int (nI k)), (0, .ref (ad 0)), (1, .int tp), (2, .ref (ad (29 + 18 * vN tp)))]) (fun k29 x29 H locs ls h29 ih29 => ?_) _ (0, (st (st (st (st (st M 0 7 (nI 0)) 7 0 (M (29 + 18 * vN tp) 0)) 0 7 (nI (0 + 1))) 7 (0 + 1) (nI sc)) 0 7 (nI ((0 + 1) + 1)))) _ _ ls ⟨rfl, ⟨Nat.zero_le _, bd_cong hN2 (fun j hj => bf_0 hj)⟩, hP, hS, lv_sub hl [0, 2, 3, 1] rfl⟩
  obtain ⟨k, Mk⟩ := x29
  obtain ⟨hk29, hI, hP, hS, hl⟩ := h29
  refine lv_iload_n hx hb dX5_export_29 rfl (lv_at hl 0 rfl) ?_
  refine lv_aload_n hx hb dX5_export_30 rfl (lv_at hl 3 rfl) ?_
  refine va_getN (D := D) (ci := 3) (v := .int (Mk (29 + 18 * vN tp) 4)) (C := RX4) (T := TX4) (N := 5) hx hb hts hin_RX4 hown hE.1 hP (29 + 18 * vN tp) (wd_at (M := Mk) (show 29 + 18 * vN tp < n by omega) ((tp_t cy ad (show vN tp < 6 by omega)).1 _)) rfl 4 (by decide) hf164 (fun _ h9 => h9) rfl dX5_export_31 ?_
  refine wr_top (y := (nI sc)) (by rw [hI.2.1 _ (by omega) (by omega)]; exact hsc) ?_
  refine lv_icmp_ge (tgt := 49) hx hb dX5_export_34 (by decide) (fun c_34 => ?_) (fun c_34 => ?_)
  · have c_34 := (nI_leI (by omega) (by omega)).mp c_34
    refine lv_aload_n hx hb dX5_export_49 rfl (lv_at hl 1 rfl) ?_
    refine va_get (D := D) (ci := 4) (v := .int (Mk 0 7)) (C := RX5) (T := TX5) (N := 11) hx hb hts hin_RX5 hown hE.1 hP 0 (wd_at (M := Mk) (show 0 < n by omega) ((g_0 cy ad) _)) rfl 7 (by decide) hf46 (fun _ h9 => h9) rfl dX5_export_50 ?_
    refine wr_top (y := (nI (boN (fun k => rs (sr k)) k))) hI.2.2.2.1 ?_
    have hke : k = sc := by omega
    refine vx_ret ?_
    refine W.widen (k := 1) (n := 6) (Nat.le_of_ble_eq_true rfl) (Nat.le_of_ble_eq_true rfl) ?_
    exact W.iret (v := (nI (boN (fun k => rs (sr k)) k))) hx hb hr (fun t ht hW => ⟨⟨(nI (boN (fun k => rs (sr k)) k)), Mk, rfl, ⟨htp0, htp1, by rw [hke], by have h9 := hI.2; rw [hke] at h9; exact h9⟩, (by show va_P D vwCl _ t.heap; rw [ht]; exact hP)⟩, hS.F ht⟩) hS.2.2 dX5_export_53
  · have c_34 := mt (nI_leI (by omega) (by omega)).mpr c_34
    refine lv_aload_n hx hb dX5_export_37 rfl (lv_at hl 1 rfl) ?_
    refine lv_aload_n hx hb dX5_export_38 rfl (lv_at hl 3 rfl) ?_
    refine lv_iload_n hx hb dX5_export_39 rfl (lv_at hl 0 rfl) ?_
    obtain ⟨hq1, hq2, hq3⟩ := hst k (show k < sc by omega)
    obtain ⟨hg1, hg2, hg3⟩ := hrg (sr k) hq2
    have hbo := bo_le (sz := fun k => rs (sr k)) hz6 k
    refine va_callv (va_runV (As := [.ref (ad (29 + 18 * vN tp)), .int (nI k)]) (rest := []) ⟨hx, hb, hml, hown, hts⟩ (kX5_addSignatureToBundle l (M := Mk) (rs := rs) hD hn ht6 (show k < 8 by omega) (show sr k < 8 by omega) (by rw [hI.2.1 _ (by omega) (by omega)]; exact hq1) (by rw [hI.2.1 _ (by omega) (by omega)]; exact hq3) (by rw [hI.2.1 _ (by omega) (by omega)]; exact hg1) hg2 hI.2.2.2.1 (by omega) (bd_self hI.2)) (cwV 2 hts gX5_export_X5_addSignatureToBundle rfl rfl rfl (by decide +kernel) ⟨Nat.le_of_ble_eq_true rfl, Nat.le_of_ble_eq_true rfl⟩) (rw_pv (ci := 4) (q := (RX5, TX5, 11)) hE hP hS hA rfl (wd_at (M := Mk) (show 0 < n by omega) ((g_0 cy ad) _))) rfl rfl hl.1 rfl (lv_room (Nat.le_of_ble_eq_true rfl)) dX5_export_40 ⟨Nat.le_of_ble_eq_true rfl, Nat.le_of_ble_eq_true rfl⟩) hS (fun q _ h => h) (fun q h => h) (fun u_40 t H1 locs ht hvm hr_40 hB_40 hz1 hk1 hS => ?_)
    have hP : va_P D vwCl (wd cy ad n u_40 ++ []) H1 := by rw [← ht]; exact hB_40
    clear hB_40 ht hvm hz1 hk1
    generalize H1 = H at hP hS ⊢
    rw [hI.2.1 (13 + 2 * sr k + 1) (by omega) (by omega), hI.2.1 (29 + 18 * vN tp + 2 + 2 * k) (by omega) (by omega), hI.2.1 (29 + 18 * vN tp + 2 + 2 * k + 1) (by omega) (by omega)] at hr_40
    refine lv_iinc (v := (nI (k + 1))) (lv' := [(3, .int (nI (k + 1))), (0, .ref (ad 0)), (1, .int tp), (2, .ref (ad (29 + 18 * vN tp)))]) hx hb dX5_export_43 hl (k := 0) rfl (nI_1 _) (by decide) rfl (fun ls hl => ?_)
    refine lv_goto (tgt := 29) hx hb dX5_export_46 (by decide) ?_
    exact ih29 _ (k + 1, u_40) _ _ _ (by omega) ⟨rfl, ⟨by omega, bd_tr hI.2 hr_40⟩, hP, hS, (lv_sub hl [0, 1, 2, 3] rfl)⟩
