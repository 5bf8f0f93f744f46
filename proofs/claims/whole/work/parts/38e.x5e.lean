set_option maxHeartbeats 4000000 in
set_option maxRecDepth 100000 in
/-- check -/
theorem kX5_check (l : Launch) (hlt : l.stackTraces = false) {D : va_G} {cy ad : Nat → Nat} {n : Nat} {M : Mm} {A : Nat → Prop} (hD : ∀ M, va_D A (wd cy ad n M ++ [])) (hn : 137 ≤ n) {b0 : Nat} (hb0 : M 0 7 = nI b0) (hb1 : b0 ≤ 200) : vx_Met l yX5_check wsX5_check ({ frames := 6, cells := 9, slots := 38, locals := 149 }) (va_Pc [.ref (ad 0)] (TW D cy (wd cy ad n M ++ []) A)) (va_Qi (S := Mm) (fun r u => ckOK (M 7) b0 ∧ r = M 7 1 ∧ scP M u) (fun u t => va_P D vwCl (wd cy ad n u ++ []) t.heap) A) (vx_X (S := Mm) (fun _ => True) (fun E u t => (E = "java/lang/IllegalArgumentException" ∧ ¬ ckOK (M 7) b0 ∧ scP M u) ∧ va_P D vwCl (wd cy ad n u ++ []) t.heap) A) 9 38 A := by
  refine vx_ofW (cc := cX5_check) (maxL := 2) (ret := (some .int)) (by decide) rfl ?_
  intro p e s m args below meth c s₁ B hml htab hv
  obtain ⟨rfl, hP, hE, hA, hX⟩ := hv
  have hx := B.exec
  have hb := B.bytes
  have hr := B.returns
  have hts := atoms_spec (ws := wsX5_check) B.pre
  have hown : s.vm.findClass RX5 = some m.cls := findClass_of_methodNamed B.named
  have hlocks := B.notSynchronized
  have hf42 : (Cond.fieldLink RX5 42 "RingPetition" "bundled" "[I").before #[.ref (ad 0)] s = true := hts _ (by decide +kernel)
  have hf46 : (Cond.fieldLink RX5 46 "RingPetition" "bundledCount" "I").before #[.ref (ad 0)] s = true := hts _ (by decide +kernel)
  have hin_RX5 : ∀ w ∈ u_ws RX5 TX5 11, w ∈ wsX5_check := by decide +kernel
  have hS : va_S A s.heap s.heap [] := va_S.rf
  have hl := lv_entry ([.ref (ad 0)]) (n := 2) (Nat.le_of_ble_eq_true rfl)
  rw [lg_entry_eq]
  generalize (lg_sl ([.ref (ad 0)]) ++ List.replicate (2 - (lg_sl ([.ref (ad 0)])).length) Slot.unset).toArray = ls at hl ⊢
  have hl : lv_has ls 2 [(0, .ref (ad 0))] := hl
  refine lv_aload_n hx hb dX5_check_0 rfl (lv_at hl 0 rfl) ?_
  refine va_get (D := D) (ci := 4) (v := .int (M 0 7)) (C := RX5) (T := TX5) (N := 11) hx hb hts hin_RX5 hown hE.1 hP 0 (wd_at (M := M) (show 0 < n by omega) ((g_0 cy ad) _)) rfl 7 (by decide) hf46 (fun _ h9 => h9) rfl dX5_check_1 ?_
  refine wr_top (y := (nI b0)) hb0 ?_
  refine lv_iconst (v := (nI 2)) hx hb dX5_check_4 (by decide) ?_
  refine lv_icmp_ge (tgt := 18) hx hb dX5_check_5 (by decide) (fun c_5 => ?_) (fun c_5 => ?_)
  · have c_5 := (nI_leI (by omega) (by omega)).mp c_5
    refine lv_aload_n hx hb dX5_check_18 rfl (lv_at hl 0 rfl) ?_
    refine va_get (D := D) (ci := 4) (v := .ref (ad 7)) (C := RX5) (T := TX5) (N := 11) hx hb hts hin_RX5 hown hE.1 hP 0 (wd_at (M := M) (show 0 < n by omega) ((g_0 cy ad) _)) rfl 6 (by decide) hf42 (fun _ h9 => h9) rfl dX5_check_19 ?_
    refine lv_iconst (v := (nI 1)) hx hb dX5_check_22 (by decide) ?_
    refine wr_ald (cy := cy) (ad := ad) (ex := []) hx hb hE.1 hP 7 (show 7 < n by omega) ((g_7 cy ad) _) 1 rfl (by omega) (by decide) dX5_check_23 ?_
    refine lv_istore_n (lv' := [(1, .int (M 7 1)), (0, .ref (ad 0))]) hx hb dX5_check_24 rfl hl (by decide) rfl (fun ls hl => ?_)
    refine lv_iload_n hx hb dX5_check_25 rfl (lv_at hl 0 rfl) ?_
    refine lv_if_lt (tgt := 35) hx hb dX5_check_26 (by decide) (fun c_26 => ?_) (fun c_26 => ?_)
    · have c_26 := (o_lt0 _).mp c_26
      obtain ⟨sa, hstr⟩ := hX.2.2.1 (207, "not 0 to 8 signatures") (List.mem_of_getElem? (i := 18) rfl)
      exact vx_throwS (text := "not 0 to 8 signatures") (names := exN) (ik := 68) (is := 207) (ic := 72) (A := A) hx hb hlt hown ex_c68 ex_n (hts (.classLink RX5 68 "java/lang/IllegalArgumentException") (by decide +kernel)) (hts (.initialized "java/lang/IllegalArgumentException") (by decide +kernel)) hstr (vx_hat (fun w h => hts w (List.mem_cons_of_mem _ (List.mem_append_right _ h))) ex_b68 (ex_u hX (List.mem_of_getElem? (i := 0) rfl))) ex_g68 hX.1 hX.2.1 hS (hl.1.trans hml.symm) dX5_check_35 dX5_check_38 dX5_check_39 dX5_check_41 dX5_check_44 (fun x h => (htab x h).elim) (Nat.le_of_ble_eq_true rfl) (Nat.le_of_ble_eq_true rfl) (Nat.le_of_ble_eq_true rfl) (Nat.le_of_ble_eq_true rfl) hlocks (fun t h1 h2 h3 => ⟨M, trivial, ⟨⟨rfl, fun h => by have := h.2.1; have := h.2.2.1; omega, fun _ _ _ _ _ _ => rfl⟩, va_keep hP h3⟩, vx_fin hS h2 h3⟩) hS.2.2 (Nat.le_of_ble_eq_true rfl) (Nat.le_of_ble_eq_true rfl)
    · have c_26 := mt (o_lt0 _).mpr c_26
      refine lv_iload_n hx hb dX5_check_29 rfl (lv_at hl 0 rfl) ?_
      refine lv_bipush (v := (nI 8)) hx hb dX5_check_30 (by decide) ?_
      refine lv_icmp_le (tgt := 45) hx hb dX5_check_32 (by decide) (fun c_32 => ?_) (fun c_32 => ?_)
      · have c_32 := (o_ge (by omega) _).mp c_32
        refine lv_aload_n hx hb dX5_check_45 rfl (lv_at hl 1 rfl) ?_
        refine lv_iload_n hx hb dX5_check_46 rfl (lv_at hl 0 rfl) ?_
        refine wr_top (y := (nI (vN (M 7 1)))) (x_vN (by omega)) ?_
        refine va_calli (va_runV (As := [.int (nI (vN (M 7 1)))]) (rest := []) ⟨hx, hb, hml, hown, hts⟩ (kX5_endOfGoodSignatures l hD hn (mm := vN (M 7 1)) (by rw [vN_toInt]; omega) hb0 hb1) (cwV 1 hts gX5_check_X5_endOfGoodSignatures rfl rfl rfl (by decide +kernel) ⟨Nat.le_of_ble_eq_true rfl, Nat.le_of_ble_eq_true rfl⟩) (rw_pv (ci := 4) (q := (RX5, TX5, 11)) hE hP hS hA rfl (wd_at (M := M) (show 0 < n by omega) ((g_0 cy ad) _))) rfl rfl hl.1 rfl (lv_room (Nat.le_of_ble_eq_true rfl)) dX5_check_47 ⟨Nat.le_of_ble_eq_true rfl, Nat.le_of_ble_eq_true rfl⟩) hS (fun q _ h => h) (fun q h => h) (fun r_47 u_47 t H1 locs ht hvm hr_47 hB_47 hz1 hk1 hS => ?_)
        have hP : va_P D vwCl (wd cy ad n u_47 ++ []) H1 := by rw [← ht]; exact hB_47
        clear hB_47 ht hvm hz1 hk1
        generalize H1 = H at hP hS ⊢
        obtain ⟨hr_47, hsc⟩ := hr_47
        rcases hr_47 with ⟨hall, rfl⟩ | ⟨hno, rfl⟩
        · refine lv_aload_n hx hb dX5_check_50 rfl (lv_at hl 1 rfl) ?_
          refine va_get (D := D) (ci := 4) (v := .int (u_47 0 7)) (C := RX5) (T := TX5) (N := 11) hx hb hts hin_RX5 hown hE.1 hP 0 (wd_at (M := u_47) (show 0 < n by omega) ((g_0 cy ad) _)) rfl 7 (by decide) hf46 (fun _ h9 => h9) rfl dX5_check_51 ?_
          refine wr_top (y := (nI b0)) (by rw [hsc 0 (by decide) (by decide) (by decide) (by decide) (by decide)]; exact hb0) ?_
          refine lv_icmp_eq (tgt := 67) hx hb dX5_check_54 (by decide) (fun c_54 => ?_) (fun c_54 => ?_)
          · have hco : coN (M 7) (vN (M 7 1)) < 2 ^ 31 := co_lt hall (by omega)
            have c_54 := (nI_eq hco (by omega)).mp c_54
            refine lv_iload_n hx hb dX5_check_67 rfl (lv_at hl 0 rfl) ?_
            refine vx_ret ?_
            refine W.widen (k := 9) (n := 38) (Nat.le_of_ble_eq_true rfl) (Nat.le_of_ble_eq_true rfl) ?_
            exact W.iret (v := (M 7 1)) hx hb hr (fun t ht hW => ⟨⟨(M 7 1), u_47, rfl, ⟨⟨by omega, by omega, by omega, hall, c_54⟩, rfl, hsc⟩, (by show va_P D vwCl _ t.heap; rw [ht]; exact hP)⟩, hS.F ht⟩) hS.2.2 dX5_check_68
          · have hco : coN (M 7) (vN (M 7 1)) < 2 ^ 31 := co_lt hall (by omega)
            have c_54 := mt (nI_eq hco (by omega)).mpr c_54
            obtain ⟨sa, hstr⟩ := hX.2.2.1 (213, "the bundle is not as a topic's is") (List.mem_of_getElem? (i := 19) rfl)
            exact vx_throwS (text := "the bundle is not as a topic's is") (names := exN) (ik := 68) (is := 213) (ic := 72) (A := A) hx hb hlt hown ex_c68 ex_n (hts (.classLink RX5 68 "java/lang/IllegalArgumentException") (by decide +kernel)) (hts (.initialized "java/lang/IllegalArgumentException") (by decide +kernel)) hstr (vx_hat (fun w h => hts w (List.mem_cons_of_mem _ (List.mem_append_right _ h))) ex_b68 (ex_u hX (List.mem_of_getElem? (i := 0) rfl))) ex_g68 hX.1 hX.2.1 hS (hl.1.trans hml.symm) dX5_check_57 dX5_check_60 dX5_check_61 dX5_check_63 dX5_check_66 (fun x h => (htab x h).elim) (Nat.le_of_ble_eq_true rfl) (Nat.le_of_ble_eq_true rfl) (Nat.le_of_ble_eq_true rfl) (Nat.le_of_ble_eq_true rfl) hlocks (fun t h1 h2 h3 => ⟨u_47, trivial, ⟨⟨rfl, fun h => c_54 h.2.2.2.2, hsc⟩, va_keep hP h3⟩, vx_fin hS h2 h3⟩) hS.2.2 (Nat.le_of_ble_eq_true rfl) (Nat.le_of_ble_eq_true rfl)
        · refine lv_aload_n hx hb dX5_check_50 rfl (lv_at hl 1 rfl) ?_
          refine va_get (D := D) (ci := 4) (v := .int (u_47 0 7)) (C := RX5) (T := TX5) (N := 11) hx hb hts hin_RX5 hown hE.1 hP 0 (wd_at (M := u_47) (show 0 < n by omega) ((g_0 cy ad) _)) rfl 7 (by decide) hf46 (fun _ h9 => h9) rfl dX5_check_51 ?_
          refine wr_top (y := (nI b0)) (by rw [hsc 0 (by decide) (by decide) (by decide) (by decide) (by decide)]; exact hb0) ?_
          refine lv_icmp_eq (tgt := 67) hx hb dX5_check_54 (by decide) (fun c_54 => ?_) (fun c_54 => ?_)
          · exact absurd c_54 (m1_ne b0 (by omega))
          · obtain ⟨sa, hstr⟩ := hX.2.2.1 (213, "the bundle is not as a topic's is") (List.mem_of_getElem? (i := 19) rfl)
            exact vx_throwS (text := "the bundle is not as a topic's is") (names := exN) (ik := 68) (is := 213) (ic := 72) (A := A) hx hb hlt hown ex_c68 ex_n (hts (.classLink RX5 68 "java/lang/IllegalArgumentException") (by decide +kernel)) (hts (.initialized "java/lang/IllegalArgumentException") (by decide +kernel)) hstr (vx_hat (fun w h => hts w (List.mem_cons_of_mem _ (List.mem_append_right _ h))) ex_b68 (ex_u hX (List.mem_of_getElem? (i := 0) rfl))) ex_g68 hX.1 hX.2.1 hS (hl.1.trans hml.symm) dX5_check_57 dX5_check_60 dX5_check_61 dX5_check_63 dX5_check_66 (fun x h => (htab x h).elim) (Nat.le_of_ble_eq_true rfl) (Nat.le_of_ble_eq_true rfl) (Nat.le_of_ble_eq_true rfl) (Nat.le_of_ble_eq_true rfl) hlocks (fun t h1 h2 h3 => ⟨u_47, trivial, ⟨⟨rfl, fun h => hno h.2.2.2.1, hsc⟩, va_keep hP h3⟩, vx_fin hS h2 h3⟩) hS.2.2 (Nat.le_of_ble_eq_true rfl) (Nat.le_of_ble_eq_true rfl)
      · have c_32 := mt (o_ge (by omega) _).mpr c_32
        obtain ⟨sa, hstr⟩ := hX.2.2.1 (207, "not 0 to 8 signatures") (List.mem_of_getElem? (i := 18) rfl)
        exact vx_throwS (text := "not 0 to 8 signatures") (names := exN) (ik := 68) (is := 207) (ic := 72) (A := A) hx hb hlt hown ex_c68 ex_n (hts (.classLink RX5 68 "java/lang/IllegalArgumentException") (by decide +kernel)) (hts (.initialized "java/lang/IllegalArgumentException") (by decide +kernel)) hstr (vx_hat (fun w h => hts w (List.mem_cons_of_mem _ (List.mem_append_right _ h))) ex_b68 (ex_u hX (List.mem_of_getElem? (i := 0) rfl))) ex_g68 hX.1 hX.2.1 hS (hl.1.trans hml.symm) dX5_check_35 dX5_check_38 dX5_check_39 dX5_check_41 dX5_check_44 (fun x h => (htab x h).elim) (Nat.le_of_ble_eq_true rfl) (Nat.le_of_ble_eq_true rfl) (Nat.le_of_ble_eq_true rfl) (Nat.le_of_ble_eq_true rfl) hlocks (fun t h1 h2 h3 => ⟨M, trivial, ⟨⟨rfl, fun h => by have := h.2.1; have := h.2.2.1; omega, fun _ _ _ _ _ _ => rfl⟩, va_keep hP h3⟩, vx_fin hS h2 h3⟩) hS.2.2 (Nat.le_of_ble_eq_true rfl) (Nat.le_of_ble_eq_true rfl)
  · have c_5 := mt (nI_leI (by omega) (by omega)).mpr c_5
    obtain ⟨sa, hstr⟩ := hX.2.2.1 (205, "the bundle has no head") (List.mem_of_getElem? (i := 17) rfl)
    exact vx_throwS (text := "the bundle has no head") (names := exN) (ik := 68) (is := 205) (ic := 72) (A := A) hx hb hlt hown ex_c68 ex_n (hts (.classLink RX5 68 "java/lang/IllegalArgumentException") (by decide +kernel)) (hts (.initialized "java/lang/IllegalArgumentException") (by decide +kernel)) hstr (vx_hat (fun w h => hts w (List.mem_cons_of_mem _ (List.mem_append_right _ h))) ex_b68 (ex_u hX (List.mem_of_getElem? (i := 0) rfl))) ex_g68 hX.1 hX.2.1 hS (hl.1.trans hml.symm) dX5_check_8 dX5_check_11 dX5_check_12 dX5_check_14 dX5_check_17 (fun x h => (htab x h).elim) (Nat.le_of_ble_eq_true rfl) (Nat.le_of_ble_eq_true rfl) (Nat.le_of_ble_eq_true rfl) (Nat.le_of_ble_eq_true rfl) hlocks (fun t h1 h2 h3 => ⟨M, trivial, ⟨⟨rfl, fun h => by have := h.1; omega, fun _ _ _ _ _ _ => rfl⟩, va_keep hP h3⟩, vx_fin hS h2 h3⟩) hS.2.2 (Nat.le_of_ble_eq_true rfl) (Nat.le_of_ble_eq_true rfl)
