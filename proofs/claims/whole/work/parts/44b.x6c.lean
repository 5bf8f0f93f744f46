set_option maxHeartbeats 4000000 in
set_option maxRecDepth 100000 in
/-- model key -/
theorem kX6_key (l : Launch) {D : va_G} {cy ad : Nat → Nat} {n : Nat} {M : Mm} {A : Nat → Prop} (hD : ∀ M, va_D A (wd cy ad n M ++ [])) (hn : 154 ≤ n) {x : Int32} (htb : tbP M) : Met l yX6_key wsX6_key ({ frames := 0, cells := 0, slots := 0, locals := 0 }) (va_Pc [.ref (ad 137), .int x] (RW D cy (wd cy ad n M ++ []) A)) (va_Qi (S := Mm) (fun r u => (0 < x.toInt ∧ x.toInt < 1013 ∧ r = nI (4 ^ vN x % 2027) ∧ u = (st M 137 0 (nI 0))) ∨ (¬ (0 < x.toInt ∧ x.toInt < 1013) ∧ u = (st M 137 0 (nI 1)))) (fun u t => va_P D vwCl (wd cy ad n u ++ []) t.heap) A) 0 0 A := by
  refine Met.ofW (cc := cX6_key) (maxL := 2) (ret := (some .int)) (by decide +kernel) rfl ?_
  intro p e s m args below meth c s₁ B hml hv
  obtain ⟨rfl, hP, hE, hA⟩ := hv
  have hx := B.exec
  have hb := B.bytes
  have hr := B.returns
  have hts := atoms_spec (ws := wsX6_key) B.pre
  have hown : s.vm.findClass RX6 = some m.cls := findClass_of_methodNamed B.named
  have hlocks := B.notSynchronized
  have hf63 : (Cond.fieldLink RX6 63 "RingPetitionModel" "thrown" "I").before #[.ref (ad 137), .int x] s = true := hts _ (by decide +kernel)
  have hf7 : (Cond.fieldLink RX6 7 "RingPetitionModel" "power" "[I").before #[.ref (ad 137), .int x] s = true := hts _ (by decide +kernel)
  have hin_RX6 : ∀ w ∈ u_ws RX6 TX6 27, w ∈ wsX6_key := by decide +kernel
  have hS : va_S A s.heap s.heap [] := va_S.rf
  have hl := lv_entry ([.ref (ad 137), .int x]) (n := 2) (Nat.le_of_ble_eq_true rfl)
  rw [lg_entry_eq]
  generalize (lg_sl ([.ref (ad 137), .int x]) ++ List.replicate (2 - (lg_sl ([.ref (ad 137), .int x])).length) Slot.unset).toArray = ls at hl ⊢
  have hl : lv_has ls 2 [(0, .ref (ad 137)), (1, .int x)] := hl
  refine lv_aload_n hx hb dX6_key_0 rfl (lv_at hl 0 rfl) ?_
  refine lv_iload_n hx hb dX6_key_1 rfl (lv_at hl 1 rfl) ?_
  refine lv_iconst (v := (nI 1)) hx hb dX6_key_2 (by decide) ?_
  refine lv_icmp_lt (tgt := 13) hx hb dX6_key_3 (by decide) (fun c_3 => ?_) (fun c_3 => ?_)
  · have c_3 := (o_gt (by omega) _).mp c_3
    refine lv_iconst (v := (nI 1)) hx hb dX6_key_13 (by decide) ?_
    refine lv_goto (tgt := 18) hx hb dX6_key_14 (by decide) ?_
    refine wr_put (cy := cy) (ad := ad) (ex := []) (ci := 5) (C := RX6) (T := TX6) (N := 27) (ty := .int) hx hb hts hin_RX6 tyX6 tyX6_ok nmX6 hown hE.1 hP hD hS 137 (show 137 < n by omega) ((g_137 cy ad) _) rfl 0 (by decide) hf63 (fun _ h9 => h9) rfl (by decide +kernel) rfl rfl (by simp) (((g_137 cy ad) _).trans (by simp [st_at])) dX6_key_18 (fun H locs hP hS => ?_)
    refine lv_aload_n hx hb dX6_key_21 rfl (lv_at hl 0 rfl) ?_
    refine va_get (D := D) (ci := 5) (v := .int ((st M 137 0 (nI 1)) 137 0)) (C := RX6) (T := TX6) (N := 27) hx hb hts hin_RX6 hown hE.1 hP 137 (wd_at (M := (st M 137 0 (nI 1))) (show 137 < n by omega) ((g_137 cy ad) _)) rfl 0 (by decide) hf63 (fun _ h9 => h9) rfl dX6_key_22 ?_
    refine wr_top (y := (nI 1)) (st_s _ _ _ _) ?_
    refine lv_if_ne (tgt := 37) hx hb dX6_key_25 (by decide) (fun c_25 => ?_) (fun c_25 => ?_)
    · have c_25 := mt (o_eq0 _).mpr c_25
      rw [nI_toInt (by omega)] at c_25
      refine lv_iconst (v := (nI 0)) hx hb dX6_key_37 (by decide) ?_
      exact W.iret (v := (nI 0)) hx hb hr (fun t ht hW => ⟨⟨(nI 0), (st M 137 0 (nI 1)), rfl, Or.inr ⟨by omega, rfl⟩, (by show va_P D vwCl _ t.heap; rw [ht]; exact hP)⟩, hS.F ht⟩) hS.2.2 dX6_key_38
    · exact absurd c_25 (by decide)
  · have c_3 := mt (o_gt (by omega) _).mpr c_3
    refine lv_iload_n hx hb dX6_key_6 rfl (lv_at hl 1 rfl) ?_
    refine lv_sipush (v := (nI 1013)) hx hb dX6_key_7 (by decide) ?_
    refine lv_icmp_lt (tgt := 17) hx hb dX6_key_10 (by decide) (fun c_10 => ?_) (fun c_10 => ?_)
    · have c_10 := (o_gt (by omega) _).mp c_10
      refine lv_iconst (v := (nI 0)) hx hb dX6_key_17 (by decide) ?_
      refine wr_put (cy := cy) (ad := ad) (ex := []) (ci := 5) (C := RX6) (T := TX6) (N := 27) (ty := .int) hx hb hts hin_RX6 tyX6 tyX6_ok nmX6 hown hE.1 hP hD hS 137 (show 137 < n by omega) ((g_137 cy ad) _) rfl 0 (by decide) hf63 (fun _ h9 => h9) rfl (by decide +kernel) rfl rfl (by simp) (((g_137 cy ad) _).trans (by simp [st_at])) dX6_key_18 (fun H locs hP hS => ?_)
      refine lv_aload_n hx hb dX6_key_21 rfl (lv_at hl 0 rfl) ?_
      refine va_get (D := D) (ci := 5) (v := .int ((st M 137 0 (nI 0)) 137 0)) (C := RX6) (T := TX6) (N := 27) hx hb hts hin_RX6 hown hE.1 hP 137 (wd_at (M := (st M 137 0 (nI 0))) (show 137 < n by omega) ((g_137 cy ad) _)) rfl 0 (by decide) hf63 (fun _ h9 => h9) rfl dX6_key_22 ?_
      refine wr_top (y := (nI 0)) (st_s _ _ _ _) ?_
      refine lv_if_ne (tgt := 37) hx hb dX6_key_25 (by decide) (fun c_25 => ?_) (fun c_25 => ?_)
      · exact absurd c_25 (by decide)
      · have c_25 := (o_eq0 _).mp c_25
        rw [nI_toInt (by omega)] at c_25
        refine lv_aload_n hx hb dX6_key_28 rfl (lv_at hl 0 rfl) ?_
        refine va_get (D := D) (ci := 5) (v := .ref (ad 138)) (C := RX6) (T := TX6) (N := 27) hx hb hts hin_RX6 hown hE.1 hP 137 (wd_at (M := (st M 137 0 (nI 0))) (show 137 < n by omega) ((g_137 cy ad) _)) rfl 1 (by decide) hf7 (fun _ h9 => h9) rfl dX6_key_29 ?_
        refine lv_iload_n hx hb dX6_key_32 rfl (lv_at hl 1 rfl) ?_
        refine wr_ald (cy := cy) (ad := ad) (ex := []) hx hb hE.1 hP 138 (show 138 < n by omega) ((g_138 cy ad) _) (vN x) (x_vN (by omega)) (by rw [vN_toInt]; omega) (by decide) dX6_key_33 ?_
        refine wr_top (y := (M 138 (vN x))) (by rw [st_r _ _ _ (by decide)]) ?_
        refine wr_top (y := (nI (4 ^ vN x % 2027))) (htb.1 _ (by rw [vN_toInt]; omega)) ?_
        refine lv_goto (tgt := 38) hx hb dX6_key_34 (by decide) ?_
        exact W.iret (v := (nI (4 ^ vN x % 2027))) hx hb hr (fun t ht hW => ⟨⟨(nI (4 ^ vN x % 2027)), (st M 137 0 (nI 0)), rfl, Or.inl ⟨by omega, by omega, rfl, rfl⟩, (by show va_P D vwCl _ t.heap; rw [ht]; exact hP)⟩, hS.F ht⟩) hS.2.2 dX6_key_38
    · have c_10 := mt (o_gt (by omega) _).mpr c_10
      refine lv_iconst (v := (nI 1)) hx hb dX6_key_13 (by decide) ?_
      refine lv_goto (tgt := 18) hx hb dX6_key_14 (by decide) ?_
      refine wr_put (cy := cy) (ad := ad) (ex := []) (ci := 5) (C := RX6) (T := TX6) (N := 27) (ty := .int) hx hb hts hin_RX6 tyX6 tyX6_ok nmX6 hown hE.1 hP hD hS 137 (show 137 < n by omega) ((g_137 cy ad) _) rfl 0 (by decide) hf63 (fun _ h9 => h9) rfl (by decide +kernel) rfl rfl (by simp) (((g_137 cy ad) _).trans (by simp [st_at])) dX6_key_18 (fun H locs hP hS => ?_)
      refine lv_aload_n hx hb dX6_key_21 rfl (lv_at hl 0 rfl) ?_
      refine va_get (D := D) (ci := 5) (v := .int ((st M 137 0 (nI 1)) 137 0)) (C := RX6) (T := TX6) (N := 27) hx hb hts hin_RX6 hown hE.1 hP 137 (wd_at (M := (st M 137 0 (nI 1))) (show 137 < n by omega) ((g_137 cy ad) _)) rfl 0 (by decide) hf63 (fun _ h9 => h9) rfl dX6_key_22 ?_
      refine wr_top (y := (nI 1)) (st_s _ _ _ _) ?_
      refine lv_if_ne (tgt := 37) hx hb dX6_key_25 (by decide) (fun c_25 => ?_) (fun c_25 => ?_)
      · have c_25 := mt (o_eq0 _).mpr c_25
        rw [nI_toInt (by omega)] at c_25
        refine lv_iconst (v := (nI 0)) hx hb dX6_key_37 (by decide) ?_
        exact W.iret (v := (nI 0)) hx hb hr (fun t ht hW => ⟨⟨(nI 0), (st M 137 0 (nI 1)), rfl, Or.inr ⟨by omega, rfl⟩, (by show va_P D vwCl _ t.heap; rw [ht]; exact hP)⟩, hS.F ht⟩) hS.2.2 dX6_key_38
      · exact absurd c_25 (by decide)

set_option maxHeartbeats 4000000 in
set_option maxRecDepth 100000 in
/-- model base -/
theorem kX6_base (l : Launch) {D : va_G} {cy ad : Nat → Nat} {n : Nat} {M : Mm} {A : Nat → Prop} (hD : ∀ M, va_D A (wd cy ad n M ++ [])) (hn : 154 ≤ n) {tc : Nat} (htc : M 137 8 = nI tc) (htc6 : tc ≤ 6) {x : Int32} : Met l yX6_base wsX6_base ({ frames := 1, cells := 0, slots := 0, locals := 21 }) (va_Pc [.ref (ad 137), .int x] (RW D cy (wd cy ad n M ++ []) A)) (va_Qi (S := Mm) (fun r u => (0 ≤ x.toInt ∧ x.toInt < (tc : Int) ∧ r = M 144 (vN x) ∧ u = (st M 137 0 (nI 0))) ∨ (¬ (0 ≤ x.toInt ∧ x.toInt < (tc : Int)) ∧ u = (st M 137 0 (nI 1)))) (fun u t => va_P D vwCl (wd cy ad n u ++ []) t.heap) A) 0 0 A := by
  refine Met.ofW (cc := cX6_base) (maxL := 2) (ret := (some .int)) (by decide +kernel) rfl ?_
  intro p e s m args below meth c s₁ B hml hv
  obtain ⟨rfl, hP, hE, hA⟩ := hv
  have hx := B.exec
  have hb := B.bytes
  have hr := B.returns
  have hts := atoms_spec (ws := wsX6_base) B.pre
  have hown : s.vm.findClass RX6 = some m.cls := findClass_of_methodNamed B.named
  have hlocks := B.notSynchronized
  have hf28 : (Cond.fieldLink RX6 28 "RingPetitionModel" "bases" "[I").before #[.ref (ad 137), .int x] s = true := hts _ (by decide +kernel)
  have hf63 : (Cond.fieldLink RX6 63 "RingPetitionModel" "thrown" "I").before #[.ref (ad 137), .int x] s = true := hts _ (by decide +kernel)
  have hin_RX6 : ∀ w ∈ u_ws RX6 TX6 27, w ∈ wsX6_base := by decide +kernel
  have hS : va_S A s.heap s.heap [] := va_S.rf
  have hl := lv_entry ([.ref (ad 137), .int x]) (n := 2) (Nat.le_of_ble_eq_true rfl)
  rw [lg_entry_eq]
  generalize (lg_sl ([.ref (ad 137), .int x]) ++ List.replicate (2 - (lg_sl ([.ref (ad 137), .int x])).length) Slot.unset).toArray = ls at hl ⊢
  have hl : lv_has ls 2 [(0, .ref (ad 137)), (1, .int x)] := hl
  refine lv_aload_n hx hb dX6_base_0 rfl (lv_at hl 0 rfl) ?_
  refine lv_aload_n hx hb dX6_base_1 rfl (lv_at hl 0 rfl) ?_
  refine lv_iload_n hx hb dX6_base_2 rfl (lv_at hl 1 rfl) ?_
  refine vp_callSi (W.runV (As := [.int x]) (rest := [.ref (ad 137)]) ⟨hx, hb, hml, hown, hts⟩ (kX6_noTopic l hn htc (by omega)) (cwV 1 hts gX6_base_X6_noTopic rfl rfl rfl (by decide +kernel) ⟨Nat.le_of_ble_eq_true rfl, Nat.le_of_ble_eq_true rfl⟩) (ro_pv (ci := 5) (q := (RX6, TX6, 27)) hE hP rfl (wd_at (M := M) (show 137 < n by omega) ((g_137 cy ad) _))) rfl rfl hl.1 rfl (lv_room (Nat.le_of_ble_eq_true rfl)) dX6_base_3 ⟨Nat.le_of_ble_eq_true rfl, Nat.le_of_ble_eq_true rfl⟩) (fun r_3 hr_3 => ?_)
  rcases hr_3 with ⟨hq_3, rfl⟩ | ⟨hq_3, rfl⟩
  · refine lv_if_eq (tgt := 13) hx hb dX6_base_6 (by decide) (fun c_6 => ?_) (fun c_6 => ?_)
    · exact absurd c_6 (by decide)
    · have c_6 := mt (o_eq0 _).mpr c_6
      refine lv_iconst (v := (nI 1)) hx hb dX6_base_9 (by decide) ?_
      refine lv_goto (tgt := 14) hx hb dX6_base_10 (by decide) ?_
      refine wr_put (cy := cy) (ad := ad) (ex := []) (ci := 5) (C := RX6) (T := TX6) (N := 27) (ty := .int) hx hb hts hin_RX6 tyX6 tyX6_ok nmX6 hown hE.1 hP hD hS 137 (show 137 < n by omega) ((g_137 cy ad) _) rfl 0 (by decide) hf63 (fun _ h9 => h9) rfl (by decide +kernel) rfl rfl (by simp) (((g_137 cy ad) _).trans (by simp [st_at])) dX6_base_14 (fun H locs hP hS => ?_)
      refine lv_aload_n hx hb dX6_base_17 rfl (lv_at hl 0 rfl) ?_
      refine va_get (D := D) (ci := 5) (v := .int ((st M 137 0 (nI 1)) 137 0)) (C := RX6) (T := TX6) (N := 27) hx hb hts hin_RX6 hown hE.1 hP 137 (wd_at (M := (st M 137 0 (nI 1))) (show 137 < n by omega) ((g_137 cy ad) _)) rfl 0 (by decide) hf63 (fun _ h9 => h9) rfl dX6_base_18 ?_
      refine wr_top (y := (nI 1)) (st_s _ _ _ _) ?_
      refine lv_if_ne (tgt := 33) hx hb dX6_base_21 (by decide) (fun c_21 => ?_) (fun c_21 => ?_)
      · have c_21 := mt (o_eq0 _).mpr c_21
        rw [nI_toInt (by omega)] at c_21
        refine lv_iconst (v := (nI 0)) hx hb dX6_base_33 (by decide) ?_
        exact W.iret (v := (nI 0)) hx hb hr (fun t ht hW => ⟨⟨(nI 0), (st M 137 0 (nI 1)), rfl, Or.inr ⟨by omega, rfl⟩, (by show va_P D vwCl _ t.heap; rw [ht]; exact hP)⟩, hS.F ht⟩) hS.2.2 dX6_base_34
      · exact absurd c_21 (by decide)
  · refine lv_if_eq (tgt := 13) hx hb dX6_base_6 (by decide) (fun c_6 => ?_) (fun c_6 => ?_)
    · have c_6 := (o_eq0 _).mp c_6
      refine lv_iconst (v := (nI 0)) hx hb dX6_base_13 (by decide) ?_
      refine wr_put (cy := cy) (ad := ad) (ex := []) (ci := 5) (C := RX6) (T := TX6) (N := 27) (ty := .int) hx hb hts hin_RX6 tyX6 tyX6_ok nmX6 hown hE.1 hP hD hS 137 (show 137 < n by omega) ((g_137 cy ad) _) rfl 0 (by decide) hf63 (fun _ h9 => h9) rfl (by decide +kernel) rfl rfl (by simp) (((g_137 cy ad) _).trans (by simp [st_at])) dX6_base_14 (fun H locs hP hS => ?_)
      refine lv_aload_n hx hb dX6_base_17 rfl (lv_at hl 0 rfl) ?_
      refine va_get (D := D) (ci := 5) (v := .int ((st M 137 0 (nI 0)) 137 0)) (C := RX6) (T := TX6) (N := 27) hx hb hts hin_RX6 hown hE.1 hP 137 (wd_at (M := (st M 137 0 (nI 0))) (show 137 < n by omega) ((g_137 cy ad) _)) rfl 0 (by decide) hf63 (fun _ h9 => h9) rfl dX6_base_18 ?_
      refine wr_top (y := (nI 0)) (st_s _ _ _ _) ?_
      refine lv_if_ne (tgt := 33) hx hb dX6_base_21 (by decide) (fun c_21 => ?_) (fun c_21 => ?_)
      · exact absurd c_21 (by decide)
      · have c_21 := (o_eq0 _).mp c_21
        rw [nI_toInt (by omega)] at c_21
        refine lv_aload_n hx hb dX6_base_24 rfl (lv_at hl 0 rfl) ?_
        refine va_get (D := D) (ci := 5) (v := .ref (ad 144)) (C := RX6) (T := TX6) (N := 27) hx hb hts hin_RX6 hown hE.1 hP 137 (wd_at (M := (st M 137 0 (nI 0))) (show 137 < n by omega) ((g_137 cy ad) _)) rfl 10 (by decide) hf28 (fun _ h9 => h9) rfl dX6_base_25 ?_
        refine lv_iload_n hx hb dX6_base_28 rfl (lv_at hl 1 rfl) ?_
        refine wr_ald (cy := cy) (ad := ad) (ex := []) hx hb hE.1 hP 144 (show 144 < n by omega) ((g_144 cy ad) _) (vN x) (x_vN (by omega)) (by rw [vN_toInt]; omega) (by decide) dX6_base_29 ?_
        refine wr_top (y := (M 144 (vN x))) (by rw [st_r _ _ _ (by decide)]) ?_
        refine lv_goto (tgt := 34) hx hb dX6_base_30 (by decide) ?_
        exact W.iret (v := (M 144 (vN x))) hx hb hr (fun t ht hW => ⟨⟨(M 144 (vN x)), (st M 137 0 (nI 0)), rfl, Or.inl ⟨by omega, by omega, rfl, rfl⟩, (by show va_P D vwCl _ t.heap; rw [ht]; exact hP)⟩, hS.F ht⟩) hS.2.2 dX6_base_34
    · exact absurd c_6 (by decide)

set_option maxHeartbeats 4000000 in
set_option maxRecDepth 100000 in
/-- model count -/
theorem kX6_count (l : Launch) {D : va_G} {cy ad : Nat → Nat} {n : Nat} {M : Mm} {A : Nat → Prop} (hD : ∀ M, va_D A (wd cy ad n M ++ [])) (hn : 154 ≤ n) {tc : Nat} (htc : M 137 8 = nI tc) (htc6 : tc ≤ 6) {x : Int32} : Met l yX6_count wsX6_count ({ frames := 1, cells := 0, slots := 0, locals := 21 }) (va_Pc [.ref (ad 137), .int x] (RW D cy (wd cy ad n M ++ []) A)) (va_Qi (S := Mm) (fun r u => (0 ≤ x.toInt ∧ x.toInt < (tc : Int) ∧ r = M 146 (vN x) ∧ u = (st M 137 0 (nI 0))) ∨ (¬ (0 ≤ x.toInt ∧ x.toInt < (tc : Int)) ∧ u = (st M 137 0 (nI 1)))) (fun u t => va_P D vwCl (wd cy ad n u ++ []) t.heap) A) 0 0 A := by
  refine Met.ofW (cc := cX6_count) (maxL := 2) (ret := (some .int)) (by decide +kernel) rfl ?_
  intro p e s m args below meth c s₁ B hml hv
  obtain ⟨rfl, hP, hE, hA⟩ := hv
  have hx := B.exec
  have hb := B.bytes
  have hr := B.returns
  have hts := atoms_spec (ws := wsX6_count) B.pre
  have hown : s.vm.findClass RX6 = some m.cls := findClass_of_methodNamed B.named
  have hlocks := B.notSynchronized
  have hf35 : (Cond.fieldLink RX6 35 "RingPetitionModel" "stored" "[I").before #[.ref (ad 137), .int x] s = true := hts _ (by decide +kernel)
  have hf63 : (Cond.fieldLink RX6 63 "RingPetitionModel" "thrown" "I").before #[.ref (ad 137), .int x] s = true := hts _ (by decide +kernel)
  have hin_RX6 : ∀ w ∈ u_ws RX6 TX6 27, w ∈ wsX6_count := by decide +kernel
  have hS : va_S A s.heap s.heap [] := va_S.rf
  have hl := lv_entry ([.ref (ad 137), .int x]) (n := 2) (Nat.le_of_ble_eq_true rfl)
  rw [lg_entry_eq]
  generalize (lg_sl ([.ref (ad 137), .int x]) ++ List.replicate (2 - (lg_sl ([.ref (ad 137), .int x])).length) Slot.unset).toArray = ls at hl ⊢
  have hl : lv_has ls 2 [(0, .ref (ad 137)), (1, .int x)] := hl
  refine lv_aload_n hx hb dX6_count_0 rfl (lv_at hl 0 rfl) ?_
  refine lv_aload_n hx hb dX6_count_1 rfl (lv_at hl 0 rfl) ?_
  refine lv_iload_n hx hb dX6_count_2 rfl (lv_at hl 1 rfl) ?_
  refine vp_callSi (W.runV (As := [.int x]) (rest := [.ref (ad 137)]) ⟨hx, hb, hml, hown, hts⟩ (kX6_noTopic l hn htc (by omega)) (cwV 1 hts gX6_count_X6_noTopic rfl rfl rfl (by decide +kernel) ⟨Nat.le_of_ble_eq_true rfl, Nat.le_of_ble_eq_true rfl⟩) (ro_pv (ci := 5) (q := (RX6, TX6, 27)) hE hP rfl (wd_at (M := M) (show 137 < n by omega) ((g_137 cy ad) _))) rfl rfl hl.1 rfl (lv_room (Nat.le_of_ble_eq_true rfl)) dX6_count_3 ⟨Nat.le_of_ble_eq_true rfl, Nat.le_of_ble_eq_true rfl⟩) (fun r_3 hr_3 => ?_)
  rcases hr_3 with ⟨hq_3, rfl⟩ | ⟨hq_3, rfl⟩
  · refine lv_if_eq (tgt := 13) hx hb dX6_count_6 (by decide) (fun c_6 => ?_) (fun c_6 => ?_)
    · exact absurd c_6 (by decide)
    · have c_6 := mt (o_eq0 _).mpr c_6
      refine lv_iconst (v := (nI 1)) hx hb dX6_count_9 (by decide) ?_
      refine lv_goto (tgt := 14) hx hb dX6_count_10 (by decide) ?_
      refine wr_put (cy := cy) (ad := ad) (ex := []) (ci := 5) (C := RX6) (T := TX6) (N := 27) (ty := .int) hx hb hts hin_RX6 tyX6 tyX6_ok nmX6 hown hE.1 hP hD hS 137 (show 137 < n by omega) ((g_137 cy ad) _) rfl 0 (by decide) hf63 (fun _ h9 => h9) rfl (by decide +kernel) rfl rfl (by simp) (((g_137 cy ad) _).trans (by simp [st_at])) dX6_count_14 (fun H locs hP hS => ?_)
      refine lv_aload_n hx hb dX6_count_17 rfl (lv_at hl 0 rfl) ?_
      refine va_get (D := D) (ci := 5) (v := .int ((st M 137 0 (nI 1)) 137 0)) (C := RX6) (T := TX6) (N := 27) hx hb hts hin_RX6 hown hE.1 hP 137 (wd_at (M := (st M 137 0 (nI 1))) (show 137 < n by omega) ((g_137 cy ad) _)) rfl 0 (by decide) hf63 (fun _ h9 => h9) rfl dX6_count_18 ?_
      refine wr_top (y := (nI 1)) (st_s _ _ _ _) ?_
      refine lv_if_ne (tgt := 33) hx hb dX6_count_21 (by decide) (fun c_21 => ?_) (fun c_21 => ?_)
      · have c_21 := mt (o_eq0 _).mpr c_21
        rw [nI_toInt (by omega)] at c_21
        refine lv_iconst (v := (nI 0)) hx hb dX6_count_33 (by decide) ?_
        exact W.iret (v := (nI 0)) hx hb hr (fun t ht hW => ⟨⟨(nI 0), (st M 137 0 (nI 1)), rfl, Or.inr ⟨by omega, rfl⟩, (by show va_P D vwCl _ t.heap; rw [ht]; exact hP)⟩, hS.F ht⟩) hS.2.2 dX6_count_34
      · exact absurd c_21 (by decide)
  · refine lv_if_eq (tgt := 13) hx hb dX6_count_6 (by decide) (fun c_6 => ?_) (fun c_6 => ?_)
    · have c_6 := (o_eq0 _).mp c_6
      refine lv_iconst (v := (nI 0)) hx hb dX6_count_13 (by decide) ?_
      refine wr_put (cy := cy) (ad := ad) (ex := []) (ci := 5) (C := RX6) (T := TX6) (N := 27) (ty := .int) hx hb hts hin_RX6 tyX6 tyX6_ok nmX6 hown hE.1 hP hD hS 137 (show 137 < n by omega) ((g_137 cy ad) _) rfl 0 (by decide) hf63 (fun _ h9 => h9) rfl (by decide +kernel) rfl rfl (by simp) (((g_137 cy ad) _).trans (by simp [st_at])) dX6_count_14 (fun H locs hP hS => ?_)
      refine lv_aload_n hx hb dX6_count_17 rfl (lv_at hl 0 rfl) ?_
      refine va_get (D := D) (ci := 5) (v := .int ((st M 137 0 (nI 0)) 137 0)) (C := RX6) (T := TX6) (N := 27) hx hb hts hin_RX6 hown hE.1 hP 137 (wd_at (M := (st M 137 0 (nI 0))) (show 137 < n by omega) ((g_137 cy ad) _)) rfl 0 (by decide) hf63 (fun _ h9 => h9) rfl dX6_count_18 ?_
      refine wr_top (y := (nI 0)) (st_s _ _ _ _) ?_
      refine lv_if_ne (tgt := 33) hx hb dX6_count_21 (by decide) (fun c_21 => ?_) (fun c_21 => ?_)
      · exact absurd c_21 (by decide)
      · have c_21 := (o_eq0 _).mp c_21
        rw [nI_toInt (by omega)] at c_21
        refine lv_aload_n hx hb dX6_count_24 rfl (lv_at hl 0 rfl) ?_
        refine va_get (D := D) (ci := 5) (v := .ref (ad 146)) (C := RX6) (T := TX6) (N := 27) hx hb hts hin_RX6 hown hE.1 hP 137 (wd_at (M := (st M 137 0 (nI 0))) (show 137 < n by omega) ((g_137 cy ad) _)) rfl 12 (by decide) hf35 (fun _ h9 => h9) rfl dX6_count_25 ?_
        refine lv_iload_n hx hb dX6_count_28 rfl (lv_at hl 1 rfl) ?_
        refine wr_ald (cy := cy) (ad := ad) (ex := []) hx hb hE.1 hP 146 (show 146 < n by omega) ((g_146 cy ad) _) (vN x) (x_vN (by omega)) (by rw [vN_toInt]; omega) (by decide) dX6_count_29 ?_
        refine wr_top (y := (M 146 (vN x))) (by rw [st_r _ _ _ (by decide)]) ?_
        refine lv_goto (tgt := 34) hx hb dX6_count_30 (by decide) ?_
        exact W.iret (v := (M 146 (vN x))) hx hb hr (fun t ht hW => ⟨⟨(M 146 (vN x)), (st M 137 0 (nI 0)), rfl, Or.inl ⟨by omega, by omega, rfl, rfl⟩, (by show va_P D vwCl _ t.heap; rw [ht]; exact hP)⟩, hS.F ht⟩) hS.2.2 dX6_count_34
    · exact absurd c_6 (by decide)

set_option maxHeartbeats 4000000 in
set_option maxRecDepth 100000 in
/-- model draft -/
theorem kX6_draft (l : Launch) {D : va_G} {cy ad : Nat → Nat} {n : Nat} {M : Mm} {A : Nat → Prop} (hD : ∀ M, va_D A (wd cy ad n M ++ [])) (hn : 154 ≤ n) {d : Nat} (hd : M 137 16 = nI d) (hd8 : d ≤ 8) {x : Int32} : Met l yX6_draft wsX6_draft ({ frames := 0, cells := 0, slots := 0, locals := 0 }) (va_Pc [.ref (ad 137), .int x] (RW D cy (wd cy ad n M ++ []) A)) (va_Qi (S := Mm) (fun r u => (0 ≤ x.toInt ∧ x.toInt < (d : Int) ∧ r = M 150 (vN x) ∧ u = (st M 137 0 (nI 0))) ∨ (¬ (0 ≤ x.toInt ∧ x.toInt < (d : Int)) ∧ u = (st M 137 0 (nI 1)))) (fun u t => va_P D vwCl (wd cy ad n u ++ []) t.heap) A) 0 0 A := by
  refine Met.ofW (cc := cX6_draft) (maxL := 2) (ret := (some .int)) (by decide +kernel) rfl ?_
  intro p e s m args below meth c s₁ B hml hv
  obtain ⟨rfl, hP, hE, hA⟩ := hv
  have hx := B.exec
  have hb := B.bytes
  have hr := B.returns
  have hts := atoms_spec (ws := wsX6_draft) B.pre
  have hown : s.vm.findClass RX6 = some m.cls := findClass_of_methodNamed B.named
  have hlocks := B.notSynchronized
  have hf47 : (Cond.fieldLink RX6 47 "RingPetitionModel" "draftSize" "I").before #[.ref (ad 137), .int x] s = true := hts _ (by decide +kernel)
  have hf51 : (Cond.fieldLink RX6 51 "RingPetitionModel" "drafted" "[I").before #[.ref (ad 137), .int x] s = true := hts _ (by decide +kernel)
  have hf63 : (Cond.fieldLink RX6 63 "RingPetitionModel" "thrown" "I").before #[.ref (ad 137), .int x] s = true := hts _ (by decide +kernel)
  have hin_RX6 : ∀ w ∈ u_ws RX6 TX6 27, w ∈ wsX6_draft := by decide +kernel
  have hS : va_S A s.heap s.heap [] := va_S.rf
  have hl := lv_entry ([.ref (ad 137), .int x]) (n := 2) (Nat.le_of_ble_eq_true rfl)
  rw [lg_entry_eq]
  generalize (lg_sl ([.ref (ad 137), .int x]) ++ List.replicate (2 - (lg_sl ([.ref (ad 137), .int x])).length) Slot.unset).toArray = ls at hl ⊢
  have hl : lv_has ls 2 [(0, .ref (ad 137)), (1, .int x)] := hl
  refine lv_aload_n hx hb dX6_draft_0 rfl (lv_at hl 0 rfl) ?_
  refine lv_iload_n hx hb dX6_draft_1 rfl (lv_at hl 1 rfl) ?_
  refine lv_if_lt (tgt := 13) hx hb dX6_draft_2 (by decide) (fun c_2 => ?_) (fun c_2 => ?_)
  · have c_2 := (o_lt0 _).mp c_2
    refine lv_iconst (v := (nI 1)) hx hb dX6_draft_13 (by decide) ?_
    refine lv_goto (tgt := 18) hx hb dX6_draft_14 (by decide) ?_
    refine wr_put (cy := cy) (ad := ad) (ex := []) (ci := 5) (C := RX6) (T := TX6) (N := 27) (ty := .int) hx hb hts hin_RX6 tyX6 tyX6_ok nmX6 hown hE.1 hP hD hS 137 (show 137 < n by omega) ((g_137 cy ad) _) rfl 0 (by decide) hf63 (fun _ h9 => h9) rfl (by decide +kernel) rfl rfl (by simp) (((g_137 cy ad) _).trans (by simp [st_at])) dX6_draft_18 (fun H locs hP hS => ?_)
    refine lv_aload_n hx hb dX6_draft_21 rfl (lv_at hl 0 rfl) ?_
    refine va_get (D := D) (ci := 5) (v := .int ((st M 137 0 (nI 1)) 137 0)) (C := RX6) (T := TX6) (N := 27) hx hb hts hin_RX6 hown hE.1 hP 137 (wd_at (M := (st M 137 0 (nI 1))) (show 137 < n by omega) ((g_137 cy ad) _)) rfl 0 (by decide) hf63 (fun _ h9 => h9) rfl dX6_draft_22 ?_
    refine wr_top (y := (nI 1)) (st_s _ _ _ _) ?_
    refine lv_if_ne (tgt := 37) hx hb dX6_draft_25 (by decide) (fun c_25 => ?_) (fun c_25 => ?_)
    · have c_25 := mt (o_eq0 _).mpr c_25
      rw [nI_toInt (by omega)] at c_25
      refine lv_iconst (v := (nI 0)) hx hb dX6_draft_37 (by decide) ?_
      exact W.iret (v := (nI 0)) hx hb hr (fun t ht hW => ⟨⟨(nI 0), (st M 137 0 (nI 1)), rfl, Or.inr ⟨by omega, rfl⟩, (by show va_P D vwCl _ t.heap; rw [ht]; exact hP)⟩, hS.F ht⟩) hS.2.2 dX6_draft_38
    · exact absurd c_25 (by decide)
  · have c_2 := mt (o_lt0 _).mpr c_2
    refine lv_iload_n hx hb dX6_draft_5 rfl (lv_at hl 1 rfl) ?_
    refine lv_aload_n hx hb dX6_draft_6 rfl (lv_at hl 0 rfl) ?_
    refine va_get (D := D) (ci := 5) (v := .int (M 137 16)) (C := RX6) (T := TX6) (N := 27) hx hb hts hin_RX6 hown hE.1 hP 137 (wd_at (M := M) (show 137 < n by omega) ((g_137 cy ad) _)) rfl 16 (by decide) hf47 (fun _ h9 => h9) rfl dX6_draft_7 ?_
    refine wr_top (y := (nI d)) hd ?_
    refine lv_icmp_lt (tgt := 17) hx hb dX6_draft_10 (by decide) (fun c_10 => ?_) (fun c_10 => ?_)
    · have c_10 := (o_gt (by omega) _).mp c_10
      refine lv_iconst (v := (nI 0)) hx hb dX6_draft_17 (by decide) ?_
      refine wr_put (cy := cy) (ad := ad) (ex := []) (ci := 5) (C := RX6) (T := TX6) (N := 27) (ty := .int) hx hb hts hin_RX6 tyX6 tyX6_ok nmX6 hown hE.1 hP hD hS 137 (show 137 < n by omega) ((g_137 cy ad) _) rfl 0 (by decide) hf63 (fun _ h9 => h9) rfl (by decide +kernel) rfl rfl (by simp) (((g_137 cy ad) _).trans (by simp [st_at])) dX6_draft_18 (fun H locs hP hS => ?_)
      refine lv_aload_n hx hb dX6_draft_21 rfl (lv_at hl 0 rfl) ?_
      refine va_get (D := D) (ci := 5) (v := .int ((st M 137 0 (nI 0)) 137 0)) (C := RX6) (T := TX6) (N := 27) hx hb hts hin_RX6 hown hE.1 hP 137 (wd_at (M := (st M 137 0 (nI 0))) (show 137 < n by omega) ((g_137 cy ad) _)) rfl 0 (by decide) hf63 (fun _ h9 => h9) rfl dX6_draft_22 ?_
      refine wr_top (y := (nI 0)) (st_s _ _ _ _) ?_
      refine lv_if_ne (tgt := 37) hx hb dX6_draft_25 (by decide) (fun c_25 => ?_) (fun c_25 => ?_)
      · exact absurd c_25 (by decide)
      · have c_25 := (o_eq0 _).mp c_25
        rw [nI_toInt (by omega)] at c_25
        refine lv_aload_n hx hb dX6_draft_28 rfl (lv_at hl 0 rfl) ?_
        refine va_get (D := D) (ci := 5) (v := .ref (ad 150)) (C := RX6) (T := TX6) (N := 27) hx hb hts hin_RX6 hown hE.1 hP 137 (wd_at (M := (st M 137 0 (nI 0))) (show 137 < n by omega) ((g_137 cy ad) _)) rfl 17 (by decide) hf51 (fun _ h9 => h9) rfl dX6_draft_29 ?_
        refine lv_iload_n hx hb dX6_draft_32 rfl (lv_at hl 1 rfl) ?_
        refine wr_ald (cy := cy) (ad := ad) (ex := []) hx hb hE.1 hP 150 (show 150 < n by omega) ((g_150 cy ad) _) (vN x) (x_vN (by omega)) (by rw [vN_toInt]; omega) (by decide) dX6_draft_33 ?_
        refine wr_top (y := (M 150 (vN x))) (by rw [st_r _ _ _ (by decide)]) ?_
        refine lv_goto (tgt := 38) hx hb dX6_draft_34 (by decide) ?_
        exact W.iret (v := (M 150 (vN x))) hx hb hr (fun t ht hW => ⟨⟨(M 150 (vN x)), (st M 137 0 (nI 0)), rfl, Or.inl ⟨by omega, by omega, rfl, rfl⟩, (by show va_P D vwCl _ t.heap; rw [ht]; exact hP)⟩, hS.F ht⟩) hS.2.2 dX6_draft_38
    · have c_10 := mt (o_gt (by omega) _).mpr c_10
      refine lv_iconst (v := (nI 1)) hx hb dX6_draft_13 (by decide) ?_
      refine lv_goto (tgt := 18) hx hb dX6_draft_14 (by decide) ?_
      refine wr_put (cy := cy) (ad := ad) (ex := []) (ci := 5) (C := RX6) (T := TX6) (N := 27) (ty := .int) hx hb hts hin_RX6 tyX6 tyX6_ok nmX6 hown hE.1 hP hD hS 137 (show 137 < n by omega) ((g_137 cy ad) _) rfl 0 (by decide) hf63 (fun _ h9 => h9) rfl (by decide +kernel) rfl rfl (by simp) (((g_137 cy ad) _).trans (by simp [st_at])) dX6_draft_18 (fun H locs hP hS => ?_)
      refine lv_aload_n hx hb dX6_draft_21 rfl (lv_at hl 0 rfl) ?_
      refine va_get (D := D) (ci := 5) (v := .int ((st M 137 0 (nI 1)) 137 0)) (C := RX6) (T := TX6) (N := 27) hx hb hts hin_RX6 hown hE.1 hP 137 (wd_at (M := (st M 137 0 (nI 1))) (show 137 < n by omega) ((g_137 cy ad) _)) rfl 0 (by decide) hf63 (fun _ h9 => h9) rfl dX6_draft_22 ?_
      refine wr_top (y := (nI 1)) (st_s _ _ _ _) ?_
      refine lv_if_ne (tgt := 37) hx hb dX6_draft_25 (by decide) (fun c_25 => ?_) (fun c_25 => ?_)
      · have c_25 := mt (o_eq0 _).mpr c_25
        rw [nI_toInt (by omega)] at c_25
        refine lv_iconst (v := (nI 0)) hx hb dX6_draft_37 (by decide) ?_
        exact W.iret (v := (nI 0)) hx hb hr (fun t ht hW => ⟨⟨(nI 0), (st M 137 0 (nI 1)), rfl, Or.inr ⟨by omega, rfl⟩, (by show va_P D vwCl _ t.heap; rw [ht]; exact hP)⟩, hS.F ht⟩) hS.2.2 dX6_draft_38
      · exact absurd c_25 (by decide)

set_option maxHeartbeats 4000000 in
set_option maxRecDepth 100000 in
/-- model bundle -/
theorem kX6_bundle (l : Launch) {D : va_G} {cy ad : Nat → Nat} {n : Nat} {M : Mm} {A : Nat → Prop} (hD : ∀ M, va_D A (wd cy ad n M ++ [])) (hn : 154 ≤ n) {d : Nat} (hd : M 137 18 = nI d) (hd8 : d ≤ 200) {x : Int32} : Met l yX6_bundle wsX6_bundle ({ frames := 0, cells := 0, slots := 0, locals := 0 }) (va_Pc [.ref (ad 137), .int x] (RW D cy (wd cy ad n M ++ []) A)) (va_Qi (S := Mm) (fun r u => (0 ≤ x.toInt ∧ x.toInt < (d : Int) ∧ r = M 151 (vN x) ∧ u = (st M 137 0 (nI 0))) ∨ (¬ (0 ≤ x.toInt ∧ x.toInt < (d : Int)) ∧ u = (st M 137 0 (nI 1)))) (fun u t => va_P D vwCl (wd cy ad n u ++ []) t.heap) A) 0 0 A := by
  refine Met.ofW (cc := cX6_bundle) (maxL := 2) (ret := (some .int)) (by decide +kernel) rfl ?_
  intro p e s m args below meth c s₁ B hml hv
  obtain ⟨rfl, hP, hE, hA⟩ := hv
  have hx := B.exec
  have hb := B.bytes
  have hr := B.returns
  have hts := atoms_spec (ws := wsX6_bundle) B.pre
  have hown : s.vm.findClass RX6 = some m.cls := findClass_of_methodNamed B.named
  have hlocks := B.notSynchronized
  have hf147 : (Cond.fieldLink RX6 147 "RingPetitionModel" "bundled" "I").before #[.ref (ad 137), .int x] s = true := hts _ (by decide +kernel)
  have hf54 : (Cond.fieldLink RX6 54 "RingPetitionModel" "row" "[I").before #[.ref (ad 137), .int x] s = true := hts _ (by decide +kernel)
  have hf63 : (Cond.fieldLink RX6 63 "RingPetitionModel" "thrown" "I").before #[.ref (ad 137), .int x] s = true := hts _ (by decide +kernel)
  have hin_RX6 : ∀ w ∈ u_ws RX6 TX6 27, w ∈ wsX6_bundle := by decide +kernel
  have hS : va_S A s.heap s.heap [] := va_S.rf
  have hl := lv_entry ([.ref (ad 137), .int x]) (n := 2) (Nat.le_of_ble_eq_true rfl)
  rw [lg_entry_eq]
  generalize (lg_sl ([.ref (ad 137), .int x]) ++ List.replicate (2 - (lg_sl ([.ref (ad 137), .int x])).length) Slot.unset).toArray = ls at hl ⊢
  have hl : lv_has ls 2 [(0, .ref (ad 137)), (1, .int x)] := hl
  refine lv_aload_n hx hb dX6_bundle_0 rfl (lv_at hl 0 rfl) ?_
  refine lv_iload_n hx hb dX6_bundle_1 rfl (lv_at hl 1 rfl) ?_
  refine lv_if_lt (tgt := 13) hx hb dX6_bundle_2 (by decide) (fun c_2 => ?_) (fun c_2 => ?_)
  · have c_2 := (o_lt0 _).mp c_2
    refine lv_iconst (v := (nI 1)) hx hb dX6_bundle_13 (by decide) ?_
    refine lv_goto (tgt := 18) hx hb dX6_bundle_14 (by decide) ?_
    refine wr_put (cy := cy) (ad := ad) (ex := []) (ci := 5) (C := RX6) (T := TX6) (N := 27) (ty := .int) hx hb hts hin_RX6 tyX6 tyX6_ok nmX6 hown hE.1 hP hD hS 137 (show 137 < n by omega) ((g_137 cy ad) _) rfl 0 (by decide) hf63 (fun _ h9 => h9) rfl (by decide +kernel) rfl rfl (by simp) (((g_137 cy ad) _).trans (by simp [st_at])) dX6_bundle_18 (fun H locs hP hS => ?_)
    refine lv_aload_n hx hb dX6_bundle_21 rfl (lv_at hl 0 rfl) ?_
    refine va_get (D := D) (ci := 5) (v := .int ((st M 137 0 (nI 1)) 137 0)) (C := RX6) (T := TX6) (N := 27) hx hb hts hin_RX6 hown hE.1 hP 137 (wd_at (M := (st M 137 0 (nI 1))) (show 137 < n by omega) ((g_137 cy ad) _)) rfl 0 (by decide) hf63 (fun _ h9 => h9) rfl dX6_bundle_22 ?_
    refine wr_top (y := (nI 1)) (st_s _ _ _ _) ?_
    refine lv_if_ne (tgt := 37) hx hb dX6_bundle_25 (by decide) (fun c_25 => ?_) (fun c_25 => ?_)
    · have c_25 := mt (o_eq0 _).mpr c_25
      rw [nI_toInt (by omega)] at c_25
      refine lv_iconst (v := (nI 0)) hx hb dX6_bundle_37 (by decide) ?_
      exact W.iret (v := (nI 0)) hx hb hr (fun t ht hW => ⟨⟨(nI 0), (st M 137 0 (nI 1)), rfl, Or.inr ⟨by omega, rfl⟩, (by show va_P D vwCl _ t.heap; rw [ht]; exact hP)⟩, hS.F ht⟩) hS.2.2 dX6_bundle_38
    · exact absurd c_25 (by decide)
  · have c_2 := mt (o_lt0 _).mpr c_2
    refine lv_iload_n hx hb dX6_bundle_5 rfl (lv_at hl 1 rfl) ?_
    refine lv_aload_n hx hb dX6_bundle_6 rfl (lv_at hl 0 rfl) ?_
    refine va_get (D := D) (ci := 5) (v := .int (M 137 18)) (C := RX6) (T := TX6) (N := 27) hx hb hts hin_RX6 hown hE.1 hP 137 (wd_at (M := M) (show 137 < n by omega) ((g_137 cy ad) _)) rfl 18 (by decide) hf147 (fun _ h9 => h9) rfl dX6_bundle_7 ?_
    refine wr_top (y := (nI d)) hd ?_
    refine lv_icmp_lt (tgt := 17) hx hb dX6_bundle_10 (by decide) (fun c_10 => ?_) (fun c_10 => ?_)
    · have c_10 := (o_gt (by omega) _).mp c_10
      refine lv_iconst (v := (nI 0)) hx hb dX6_bundle_17 (by decide) ?_
      refine wr_put (cy := cy) (ad := ad) (ex := []) (ci := 5) (C := RX6) (T := TX6) (N := 27) (ty := .int) hx hb hts hin_RX6 tyX6 tyX6_ok nmX6 hown hE.1 hP hD hS 137 (show 137 < n by omega) ((g_137 cy ad) _) rfl 0 (by decide) hf63 (fun _ h9 => h9) rfl (by decide +kernel) rfl rfl (by simp) (((g_137 cy ad) _).trans (by simp [st_at])) dX6_bundle_18 (fun H locs hP hS => ?_)
      refine lv_aload_n hx hb dX6_bundle_21 rfl (lv_at hl 0 rfl) ?_
      refine va_get (D := D) (ci := 5) (v := .int ((st M 137 0 (nI 0)) 137 0)) (C := RX6) (T := TX6) (N := 27) hx hb hts hin_RX6 hown hE.1 hP 137 (wd_at (M := (st M 137 0 (nI 0))) (show 137 < n by omega) ((g_137 cy ad) _)) rfl 0 (by decide) hf63 (fun _ h9 => h9) rfl dX6_bundle_22 ?_
      refine wr_top (y := (nI 0)) (st_s _ _ _ _) ?_
      refine lv_if_ne (tgt := 37) hx hb dX6_bundle_25 (by decide) (fun c_25 => ?_) (fun c_25 => ?_)
      · exact absurd c_25 (by decide)
      · have c_25 := (o_eq0 _).mp c_25
        rw [nI_toInt (by omega)] at c_25
        refine lv_aload_n hx hb dX6_bundle_28 rfl (lv_at hl 0 rfl) ?_
        refine va_get (D := D) (ci := 5) (v := .ref (ad 151)) (C := RX6) (T := TX6) (N := 27) hx hb hts hin_RX6 hown hE.1 hP 137 (wd_at (M := (st M 137 0 (nI 0))) (show 137 < n by omega) ((g_137 cy ad) _)) rfl 19 (by decide) hf54 (fun _ h9 => h9) rfl dX6_bundle_29 ?_
        refine lv_iload_n hx hb dX6_bundle_32 rfl (lv_at hl 1 rfl) ?_
        refine wr_ald (cy := cy) (ad := ad) (ex := []) hx hb hE.1 hP 151 (show 151 < n by omega) ((g_151 cy ad) _) (vN x) (x_vN (by omega)) (by rw [vN_toInt]; omega) (by decide) dX6_bundle_33 ?_
        refine wr_top (y := (M 151 (vN x))) (by rw [st_r _ _ _ (by decide)]) ?_
        refine lv_goto (tgt := 38) hx hb dX6_bundle_34 (by decide) ?_
        exact W.iret (v := (M 151 (vN x))) hx hb hr (fun t ht hW => ⟨⟨(M 151 (vN x)), (st M 137 0 (nI 0)), rfl, Or.inl ⟨by omega, by omega, rfl, rfl⟩, (by show va_P D vwCl _ t.heap; rw [ht]; exact hP)⟩, hS.F ht⟩) hS.2.2 dX6_bundle_38
    · have c_10 := mt (o_gt (by omega) _).mpr c_10
      refine lv_iconst (v := (nI 1)) hx hb dX6_bundle_13 (by decide) ?_
      refine lv_goto (tgt := 18) hx hb dX6_bundle_14 (by decide) ?_
      refine wr_put (cy := cy) (ad := ad) (ex := []) (ci := 5) (C := RX6) (T := TX6) (N := 27) (ty := .int) hx hb hts hin_RX6 tyX6 tyX6_ok nmX6 hown hE.1 hP hD hS 137 (show 137 < n by omega) ((g_137 cy ad) _) rfl 0 (by decide) hf63 (fun _ h9 => h9) rfl (by decide +kernel) rfl rfl (by simp) (((g_137 cy ad) _).trans (by simp [st_at])) dX6_bundle_18 (fun H locs hP hS => ?_)
      refine lv_aload_n hx hb dX6_bundle_21 rfl (lv_at hl 0 rfl) ?_
      refine va_get (D := D) (ci := 5) (v := .int ((st M 137 0 (nI 1)) 137 0)) (C := RX6) (T := TX6) (N := 27) hx hb hts hin_RX6 hown hE.1 hP 137 (wd_at (M := (st M 137 0 (nI 1))) (show 137 < n by omega) ((g_137 cy ad) _)) rfl 0 (by decide) hf63 (fun _ h9 => h9) rfl dX6_bundle_22 ?_
      refine wr_top (y := (nI 1)) (st_s _ _ _ _) ?_
      refine lv_if_ne (tgt := 37) hx hb dX6_bundle_25 (by decide) (fun c_25 => ?_) (fun c_25 => ?_)
      · have c_25 := mt (o_eq0 _).mpr c_25
        rw [nI_toInt (by omega)] at c_25
        refine lv_iconst (v := (nI 0)) hx hb dX6_bundle_37 (by decide) ?_
        exact W.iret (v := (nI 0)) hx hb hr (fun t ht hW => ⟨⟨(nI 0), (st M 137 0 (nI 1)), rfl, Or.inr ⟨by omega, rfl⟩, (by show va_P D vwCl _ t.heap; rw [ht]; exact hP)⟩, hS.F ht⟩) hS.2.2 dX6_bundle_38
      · exact absurd c_25 (by decide)

set_option maxHeartbeats 4000000 in
set_option maxRecDepth 100000 in
/-- model edit -/
theorem kX6_edit (l : Launch) {D : va_G} {cy ad : Nat → Nat} {n : Nat} {M : Mm} {A : Nat → Prop} (hD : ∀ M, va_D A (wd cy ad n M ++ [])) (hn : 154 ≤ n) {d : Nat} (hd : M 137 16 = nI d) (hd8 : d ≤ 8) {x v : Int32} : Met l yX6_edit wsX6_edit ({ frames := 0, cells := 0, slots := 0, locals := 0 }) (va_Pc [.ref (ad 137), .int x, .int v] (RW D cy (wd cy ad n M ++ []) A)) (va_Qv (S := Mm) (fun u => (0 ≤ x.toInt ∧ x.toInt < (d : Int) ∧ u = st (st M 137 0 (nI 0)) 150 (vN x) v) ∨ (¬ (0 ≤ x.toInt ∧ x.toInt < (d : Int)) ∧ u = (st M 137 0 (nI 1)))) (fun u t => va_P D vwCl (wd cy ad n u ++ []) t.heap) A) 0 0 A := by
  refine Met.ofW (cc := cX6_edit) (maxL := 3) (ret := none) (by decide +kernel) rfl ?_
  intro p e s m args below meth c s₁ B hml hv
  obtain ⟨rfl, hP, hE, hA⟩ := hv
  have hx := B.exec
  have hb := B.bytes
  have hr := B.returns
  have hts := atoms_spec (ws := wsX6_edit) B.pre
  have hown : s.vm.findClass RX6 = some m.cls := findClass_of_methodNamed B.named
  have hlocks := B.notSynchronized
  have hf47 : (Cond.fieldLink RX6 47 "RingPetitionModel" "draftSize" "I").before #[.ref (ad 137), .int x, .int v] s = true := hts _ (by decide +kernel)
  have hf51 : (Cond.fieldLink RX6 51 "RingPetitionModel" "drafted" "[I").before #[.ref (ad 137), .int x, .int v] s = true := hts _ (by decide +kernel)
  have hf63 : (Cond.fieldLink RX6 63 "RingPetitionModel" "thrown" "I").before #[.ref (ad 137), .int x, .int v] s = true := hts _ (by decide +kernel)
  have hin_RX6 : ∀ w ∈ u_ws RX6 TX6 27, w ∈ wsX6_edit := by decide +kernel
  have hS : va_S A s.heap s.heap [] := va_S.rf
  have hl := lv_entry ([.ref (ad 137), .int x, .int v]) (n := 3) (Nat.le_of_ble_eq_true rfl)
  rw [lg_entry_eq]
  generalize (lg_sl ([.ref (ad 137), .int x, .int v]) ++ List.replicate (3 - (lg_sl ([.ref (ad 137), .int x, .int v])).length) Slot.unset).toArray = ls at hl ⊢
  have hl : lv_has ls 3 [(0, .ref (ad 137)), (1, .int x), (2, .int v)] := hl
  refine lv_aload_n hx hb dX6_edit_0 rfl (lv_at hl 0 rfl) ?_
  refine lv_iload_n hx hb dX6_edit_1 rfl (lv_at hl 1 rfl) ?_
  refine lv_if_lt (tgt := 13) hx hb dX6_edit_2 (by decide) (fun c_2 => ?_) (fun c_2 => ?_)
  · have c_2 := (o_lt0 _).mp c_2
    refine lv_iconst (v := (nI 1)) hx hb dX6_edit_13 (by decide) ?_
    refine lv_goto (tgt := 18) hx hb dX6_edit_14 (by decide) ?_
    refine wr_put (cy := cy) (ad := ad) (ex := []) (ci := 5) (C := RX6) (T := TX6) (N := 27) (ty := .int) hx hb hts hin_RX6 tyX6 tyX6_ok nmX6 hown hE.1 hP hD hS 137 (show 137 < n by omega) ((g_137 cy ad) _) rfl 0 (by decide) hf63 (fun _ h9 => h9) rfl (by decide +kernel) rfl rfl (by simp) (((g_137 cy ad) _).trans (by simp [st_at])) dX6_edit_18 (fun H locs hP hS => ?_)
    refine lv_aload_n hx hb dX6_edit_21 rfl (lv_at hl 0 rfl) ?_
    refine va_get (D := D) (ci := 5) (v := .int ((st M 137 0 (nI 1)) 137 0)) (C := RX6) (T := TX6) (N := 27) hx hb hts hin_RX6 hown hE.1 hP 137 (wd_at (M := (st M 137 0 (nI 1))) (show 137 < n by omega) ((g_137 cy ad) _)) rfl 0 (by decide) hf63 (fun _ h9 => h9) rfl dX6_edit_22 ?_
    refine wr_top (y := (nI 1)) (st_s _ _ _ _) ?_
    refine lv_if_ne (tgt := 35) hx hb dX6_edit_25 (by decide) (fun c_25 => ?_) (fun c_25 => ?_)
    · have c_25 := mt (o_eq0 _).mpr c_25
      rw [nI_toInt (by omega)] at c_25
      exact W.vret hx hb hr (fun t ht hW => ⟨⟨(st M 137 0 (nI 1)), rfl, Or.inr ⟨by omega, rfl⟩, (by show va_P D vwCl _ t.heap; rw [ht]; exact hP)⟩, hS.F ht⟩) hS.2.2 dX6_edit_35
    · exact absurd c_25 (by decide)
  · have c_2 := mt (o_lt0 _).mpr c_2
    refine lv_iload_n hx hb dX6_edit_5 rfl (lv_at hl 1 rfl) ?_
    refine lv_aload_n hx hb dX6_edit_6 rfl (lv_at hl 0 rfl) ?_
    refine va_get (D := D) (ci := 5) (v := .int (M 137 16)) (C := RX6) (T := TX6) (N := 27) hx hb hts hin_RX6 hown hE.1 hP 137 (wd_at (M := M) (show 137 < n by omega) ((g_137 cy ad) _)) rfl 16 (by decide) hf47 (fun _ h9 => h9) rfl dX6_edit_7 ?_
    refine wr_top (y := (nI d)) hd ?_
    refine lv_icmp_lt (tgt := 17) hx hb dX6_edit_10 (by decide) (fun c_10 => ?_) (fun c_10 => ?_)
    · have c_10 := (o_gt (by omega) _).mp c_10
      refine lv_iconst (v := (nI 0)) hx hb dX6_edit_17 (by decide) ?_
      refine wr_put (cy := cy) (ad := ad) (ex := []) (ci := 5) (C := RX6) (T := TX6) (N := 27) (ty := .int) hx hb hts hin_RX6 tyX6 tyX6_ok nmX6 hown hE.1 hP hD hS 137 (show 137 < n by omega) ((g_137 cy ad) _) rfl 0 (by decide) hf63 (fun _ h9 => h9) rfl (by decide +kernel) rfl rfl (by simp) (((g_137 cy ad) _).trans (by simp [st_at])) dX6_edit_18 (fun H locs hP hS => ?_)
      refine lv_aload_n hx hb dX6_edit_21 rfl (lv_at hl 0 rfl) ?_
      refine va_get (D := D) (ci := 5) (v := .int ((st M 137 0 (nI 0)) 137 0)) (C := RX6) (T := TX6) (N := 27) hx hb hts hin_RX6 hown hE.1 hP 137 (wd_at (M := (st M 137 0 (nI 0))) (show 137 < n by omega) ((g_137 cy ad) _)) rfl 0 (by decide) hf63 (fun _ h9 => h9) rfl dX6_edit_22 ?_
      refine wr_top (y := (nI 0)) (st_s _ _ _ _) ?_
      refine lv_if_ne (tgt := 35) hx hb dX6_edit_25 (by decide) (fun c_25 => ?_) (fun c_25 => ?_)
      · exact absurd c_25 (by decide)
      · have c_25 := (o_eq0 _).mp c_25
        rw [nI_toInt (by omega)] at c_25
        refine lv_aload_n hx hb dX6_edit_28 rfl (lv_at hl 0 rfl) ?_
        refine va_get (D := D) (ci := 5) (v := .ref (ad 150)) (C := RX6) (T := TX6) (N := 27) hx hb hts hin_RX6 hown hE.1 hP 137 (wd_at (M := (st M 137 0 (nI 0))) (show 137 < n by omega) ((g_137 cy ad) _)) rfl 17 (by decide) hf51 (fun _ h9 => h9) rfl dX6_edit_29 ?_
        refine lv_iload_n hx hb dX6_edit_32 rfl (lv_at hl 1 rfl) ?_
        refine lv_iload_n hx hb dX6_edit_33 rfl (lv_at hl 2 rfl) ?_
        refine wr_ast (cy := cy) (ad := ad) (ex := []) hx hb hE.1 hP hD hS 150 (show 150 < n by omega) (g_150 cy ad) (vN x) (x_vN (by omega)) (by rw [vN_toInt]; omega) (by decide) dX6_edit_34 (fun H locs hP hS => ?_)
        exact W.vret hx hb hr (fun t ht hW => ⟨⟨(st (st M 137 0 (nI 0)) 150 (vN x) v), rfl, Or.inl ⟨by omega, by omega, rfl⟩, (by show va_P D vwCl _ t.heap; rw [ht]; exact hP)⟩, hS.F ht⟩) hS.2.2 dX6_edit_35
    · have c_10 := mt (o_gt (by omega) _).mpr c_10
      refine lv_iconst (v := (nI 1)) hx hb dX6_edit_13 (by decide) ?_
      refine lv_goto (tgt := 18) hx hb dX6_edit_14 (by decide) ?_
      refine wr_put (cy := cy) (ad := ad) (ex := []) (ci := 5) (C := RX6) (T := TX6) (N := 27) (ty := .int) hx hb hts hin_RX6 tyX6 tyX6_ok nmX6 hown hE.1 hP hD hS 137 (show 137 < n by omega) ((g_137 cy ad) _) rfl 0 (by decide) hf63 (fun _ h9 => h9) rfl (by decide +kernel) rfl rfl (by simp) (((g_137 cy ad) _).trans (by simp [st_at])) dX6_edit_18 (fun H locs hP hS => ?_)
      refine lv_aload_n hx hb dX6_edit_21 rfl (lv_at hl 0 rfl) ?_
      refine va_get (D := D) (ci := 5) (v := .int ((st M 137 0 (nI 1)) 137 0)) (C := RX6) (T := TX6) (N := 27) hx hb hts hin_RX6 hown hE.1 hP 137 (wd_at (M := (st M 137 0 (nI 1))) (show 137 < n by omega) ((g_137 cy ad) _)) rfl 0 (by decide) hf63 (fun _ h9 => h9) rfl dX6_edit_22 ?_
      refine wr_top (y := (nI 1)) (st_s _ _ _ _) ?_
      refine lv_if_ne (tgt := 35) hx hb dX6_edit_25 (by decide) (fun c_25 => ?_) (fun c_25 => ?_)
      · have c_25 := mt (o_eq0 _).mpr c_25
        rw [nI_toInt (by omega)] at c_25
        exact W.vret hx hb hr (fun t ht hW => ⟨⟨(st M 137 0 (nI 1)), rfl, Or.inr ⟨by omega, rfl⟩, (by show va_P D vwCl _ t.heap; rw [ht]; exact hP)⟩, hS.F ht⟩) hS.2.2 dX6_edit_35
      · exact absurd c_25 (by decide)

set_option maxHeartbeats 4000000 in
set_option maxRecDepth 100000 in
/-- model poke -/
theorem kX6_poke (l : Launch) {D : va_G} {cy ad : Nat → Nat} {n : Nat} {M : Mm} {A : Nat → Prop} (hD : ∀ M, va_D A (wd cy ad n M ++ [])) (hn : 154 ≤ n) {b : Nat} (hb0 : M 137 18 = nI b) (hb1 : b ≤ 200) {x v : Int32} : Met l yX6_poke wsX6_poke ({ frames := 0, cells := 0, slots := 0, locals := 0 }) (va_Pc [.ref (ad 137), .int x, .int v] (RW D cy (wd cy ad n M ++ []) A)) (va_Qv (S := Mm) (fun u => (0 ≤ x.toInt ∧ x.toInt ≤ (b : Int) ∧ x.toInt < 200 ∧ u = st (st (st M 137 0 (nI 0)) 151 (vN x) v) 137 18 (nI (if x.toInt = (b : Int) then b + 1 else b))) ∨ (¬ (0 ≤ x.toInt ∧ x.toInt ≤ (b : Int) ∧ x.toInt < 200) ∧ u = (st M 137 0 (nI 1)))) (fun u t => va_P D vwCl (wd cy ad n u ++ []) t.heap) A) 0 0 A := by
  refine Met.ofW (cc := cX6_poke) (maxL := 3) (ret := none) (by decide +kernel) rfl ?_
  intro p e s m args below meth c s₁ B hml hv
  obtain ⟨rfl, hP, hE, hA⟩ := hv
  have hx := B.exec
  have hb := B.bytes
  have hr := B.returns
  have hts := atoms_spec (ws := wsX6_poke) B.pre
  have hown : s.vm.findClass RX6 = some m.cls := findClass_of_methodNamed B.named
  have hlocks := B.notSynchronized
  have hf147 : (Cond.fieldLink RX6 147 "RingPetitionModel" "bundled" "I").before #[.ref (ad 137), .int x, .int v] s = true := hts _ (by decide +kernel)
  have hf54 : (Cond.fieldLink RX6 54 "RingPetitionModel" "row" "[I").before #[.ref (ad 137), .int x, .int v] s = true := hts _ (by decide +kernel)
  have hf63 : (Cond.fieldLink RX6 63 "RingPetitionModel" "thrown" "I").before #[.ref (ad 137), .int x, .int v] s = true := hts _ (by decide +kernel)
  have hin_RX6 : ∀ w ∈ u_ws RX6 TX6 27, w ∈ wsX6_poke := by decide +kernel
  have hS : va_S A s.heap s.heap [] := va_S.rf
  have hl := lv_entry ([.ref (ad 137), .int x, .int v]) (n := 3) (Nat.le_of_ble_eq_true rfl)
  rw [lg_entry_eq]
  generalize (lg_sl ([.ref (ad 137), .int x, .int v]) ++ List.replicate (3 - (lg_sl ([.ref (ad 137), .int x, .int v])).length) Slot.unset).toArray = ls at hl ⊢
  have hl : lv_has ls 3 [(0, .ref (ad 137)), (1, .int x), (2, .int v)] := hl
  refine lv_aload_n hx hb dX6_poke_0 rfl (lv_at hl 0 rfl) ?_
  refine lv_iload_n hx hb dX6_poke_1 rfl (lv_at hl 1 rfl) ?_
  refine lv_if_lt (tgt := 20) hx hb dX6_poke_2 (by decide) (fun c_2 => ?_) (fun c_2 => ?_)
  · have c_2 := (o_lt0 _).mp c_2
    refine lv_iconst (v := (nI 1)) hx hb dX6_poke_20 (by decide) ?_
    refine lv_goto (tgt := 25) hx hb dX6_poke_21 (by decide) ?_
    refine wr_put (cy := cy) (ad := ad) (ex := []) (ci := 5) (C := RX6) (T := TX6) (N := 27) (ty := .int) hx hb hts hin_RX6 tyX6 tyX6_ok nmX6 hown hE.1 hP hD hS 137 (show 137 < n by omega) ((g_137 cy ad) _) rfl 0 (by decide) hf63 (fun _ h9 => h9) rfl (by decide +kernel) rfl rfl (by simp) (((g_137 cy ad) _).trans (by simp [st_at])) dX6_poke_25 (fun H locs hP hS => ?_)
    refine lv_aload_n hx hb dX6_poke_28 rfl (lv_at hl 0 rfl) ?_
    refine va_get (D := D) (ci := 5) (v := .int ((st M 137 0 (nI 1)) 137 0)) (C := RX6) (T := TX6) (N := 27) hx hb hts hin_RX6 hown hE.1 hP 137 (wd_at (M := (st M 137 0 (nI 1))) (show 137 < n by omega) ((g_137 cy ad) _)) rfl 0 (by decide) hf63 (fun _ h9 => h9) rfl dX6_poke_29 ?_
    refine wr_top (y := (nI 1)) (st_s _ _ _ _) ?_
    refine lv_if_ne (tgt := 64) hx hb dX6_poke_32 (by decide) (fun c_32 => ?_) (fun c_32 => ?_)
    · have c_32 := mt (o_eq0 _).mpr c_32
      rw [nI_toInt (by omega)] at c_32
      exact W.vret hx hb hr (fun t ht hW => ⟨⟨(st M 137 0 (nI 1)), rfl, Or.inr ⟨by omega, rfl⟩, (by show va_P D vwCl _ t.heap; rw [ht]; exact hP)⟩, hS.F ht⟩) hS.2.2 dX6_poke_64
    · exact absurd c_32 (by decide)
  · have c_2 := mt (o_lt0 _).mpr c_2
    refine lv_iload_n hx hb dX6_poke_5 rfl (lv_at hl 1 rfl) ?_
    refine lv_aload_n hx hb dX6_poke_6 rfl (lv_at hl 0 rfl) ?_
    refine va_get (D := D) (ci := 5) (v := .int (M 137 18)) (C := RX6) (T := TX6) (N := 27) hx hb hts hin_RX6 hown hE.1 hP 137 (wd_at (M := M) (show 137 < n by omega) ((g_137 cy ad) _)) rfl 18 (by decide) hf147 (fun _ h9 => h9) rfl dX6_poke_7 ?_
    refine wr_top (y := (nI b)) hb0 ?_
    refine lv_icmp_gt (tgt := 20) hx hb dX6_poke_10 (by decide) (fun c_10 => ?_) (fun c_10 => ?_)
    · have c_10 := (o_lt (by omega) _).mp c_10
      refine lv_iconst (v := (nI 1)) hx hb dX6_poke_20 (by decide) ?_
      refine lv_goto (tgt := 25) hx hb dX6_poke_21 (by decide) ?_
      refine wr_put (cy := cy) (ad := ad) (ex := []) (ci := 5) (C := RX6) (T := TX6) (N := 27) (ty := .int) hx hb hts hin_RX6 tyX6 tyX6_ok nmX6 hown hE.1 hP hD hS 137 (show 137 < n by omega) ((g_137 cy ad) _) rfl 0 (by decide) hf63 (fun _ h9 => h9) rfl (by decide +kernel) rfl rfl (by simp) (((g_137 cy ad) _).trans (by simp [st_at])) dX6_poke_25 (fun H locs hP hS => ?_)
      refine lv_aload_n hx hb dX6_poke_28 rfl (lv_at hl 0 rfl) ?_
      refine va_get (D := D) (ci := 5) (v := .int ((st M 137 0 (nI 1)) 137 0)) (C := RX6) (T := TX6) (N := 27) hx hb hts hin_RX6 hown hE.1 hP 137 (wd_at (M := (st M 137 0 (nI 1))) (show 137 < n by omega) ((g_137 cy ad) _)) rfl 0 (by decide) hf63 (fun _ h9 => h9) rfl dX6_poke_29 ?_
      refine wr_top (y := (nI 1)) (st_s _ _ _ _) ?_
      refine lv_if_ne (tgt := 64) hx hb dX6_poke_32 (by decide) (fun c_32 => ?_) (fun c_32 => ?_)
      · have c_32 := mt (o_eq0 _).mpr c_32
        rw [nI_toInt (by omega)] at c_32
        exact W.vret hx hb hr (fun t ht hW => ⟨⟨(st M 137 0 (nI 1)), rfl, Or.inr ⟨by omega, rfl⟩, (by show va_P D vwCl _ t.heap; rw [ht]; exact hP)⟩, hS.F ht⟩) hS.2.2 dX6_poke_64
      · exact absurd c_32 (by decide)
    · have c_10 := mt (o_lt (by omega) _).mpr c_10
      refine lv_iload_n hx hb dX6_poke_13 rfl (lv_at hl 1 rfl) ?_
      refine lv_sipush (v := (nI 199)) hx hb dX6_poke_14 (by decide) ?_
      refine lv_icmp_le (tgt := 24) hx hb dX6_poke_17 (by decide) (fun c_17 => ?_) (fun c_17 => ?_)
      · have c_17 := (o_ge (by omega) _).mp c_17
        refine lv_iconst (v := (nI 0)) hx hb dX6_poke_24 (by decide) ?_
        refine wr_put (cy := cy) (ad := ad) (ex := []) (ci := 5) (C := RX6) (T := TX6) (N := 27) (ty := .int) hx hb hts hin_RX6 tyX6 tyX6_ok nmX6 hown hE.1 hP hD hS 137 (show 137 < n by omega) ((g_137 cy ad) _) rfl 0 (by decide) hf63 (fun _ h9 => h9) rfl (by decide +kernel) rfl rfl (by simp) (((g_137 cy ad) _).trans (by simp [st_at])) dX6_poke_25 (fun H locs hP hS => ?_)
        refine lv_aload_n hx hb dX6_poke_28 rfl (lv_at hl 0 rfl) ?_
        refine va_get (D := D) (ci := 5) (v := .int ((st M 137 0 (nI 0)) 137 0)) (C := RX6) (T := TX6) (N := 27) hx hb hts hin_RX6 hown hE.1 hP 137 (wd_at (M := (st M 137 0 (nI 0))) (show 137 < n by omega) ((g_137 cy ad) _)) rfl 0 (by decide) hf63 (fun _ h9 => h9) rfl dX6_poke_29 ?_
        refine wr_top (y := (nI 0)) (st_s _ _ _ _) ?_
        refine lv_if_ne (tgt := 64) hx hb dX6_poke_32 (by decide) (fun c_32 => ?_) (fun c_32 => ?_)
        · exact absurd c_32 (by decide)
        · have c_32 := (o_eq0 _).mp c_32
          rw [nI_toInt (by omega)] at c_32
          refine lv_aload_n hx hb dX6_poke_35 rfl (lv_at hl 0 rfl) ?_
          refine va_get (D := D) (ci := 5) (v := .ref (ad 151)) (C := RX6) (T := TX6) (N := 27) hx hb hts hin_RX6 hown hE.1 hP 137 (wd_at (M := (st M 137 0 (nI 0))) (show 137 < n by omega) ((g_137 cy ad) _)) rfl 19 (by decide) hf54 (fun _ h9 => h9) rfl dX6_poke_36 ?_
          refine lv_iload_n hx hb dX6_poke_39 rfl (lv_at hl 1 rfl) ?_
          refine lv_iload_n hx hb dX6_poke_40 rfl (lv_at hl 2 rfl) ?_
          refine wr_ast (cy := cy) (ad := ad) (ex := []) hx hb hE.1 hP hD hS 151 (show 151 < n by omega) (g_151 cy ad) (vN x) (x_vN (by omega)) (by rw [vN_toInt]; omega) (by decide) dX6_poke_41 (fun H locs hP hS => ?_)
          refine lv_aload_n hx hb dX6_poke_42 rfl (lv_at hl 0 rfl) ?_
          refine lv_dup hx hb dX6_poke_43 rfl ?_
          refine va_get (D := D) (ci := 5) (v := .int ((st (st M 137 0 (nI 0)) 151 (vN x) v) 137 18)) (C := RX6) (T := TX6) (N := 27) hx hb hts hin_RX6 hown hE.1 hP 137 (wd_at (M := (st (st M 137 0 (nI 0)) 151 (vN x) v)) (show 137 < n by omega) ((g_137 cy ad) _)) rfl 18 (by decide) hf147 (fun _ h9 => h9) rfl dX6_poke_44 ?_
          refine wr_top (y := ((st M 137 0 (nI 0)) 137 18)) (by rw [st_r _ _ _ (by decide)]) ?_
          refine wr_top (y := (M 137 18)) (st_c _ _ _ (by decide)) ?_
          refine wr_top (y := (nI b)) hb0 ?_
          refine lv_iload_n hx hb dX6_poke_47 rfl (lv_at hl 1 rfl) ?_
          refine lv_aload_n hx hb dX6_poke_48 rfl (lv_at hl 0 rfl) ?_
          refine va_get (D := D) (ci := 5) (v := .int ((st (st M 137 0 (nI 0)) 151 (vN x) v) 137 18)) (C := RX6) (T := TX6) (N := 27) hx hb hts hin_RX6 hown hE.1 hP 137 (wd_at (M := (st (st M 137 0 (nI 0)) 151 (vN x) v)) (show 137 < n by omega) ((g_137 cy ad) _)) rfl 18 (by decide) hf147 (fun _ h9 => h9) rfl dX6_poke_49 ?_
          refine wr_top (y := ((st M 137 0 (nI 0)) 137 18)) (by rw [st_r _ _ _ (by decide)]) ?_
          refine wr_top (y := (M 137 18)) (st_c _ _ _ (by decide)) ?_
          refine wr_top (y := (nI b)) hb0 ?_
          refine lv_icmp_ne (tgt := 59) hx hb dX6_poke_52 (by decide) (fun c_52 => ?_) (fun c_52 => ?_)
          · have c_52 := mt (o_eq (by omega) _).mpr c_52
            refine lv_iconst (v := (nI 0)) hx hb dX6_poke_59 (by decide) ?_
            refine lv_iadd hx hb dX6_poke_60 ?_
            refine wr_top (y := (nI (b + 0))) (nI_add _ _) ?_
            refine wr_put (cy := cy) (ad := ad) (ex := []) (ci := 5) (C := RX6) (T := TX6) (N := 27) (ty := .int) hx hb hts hin_RX6 tyX6 tyX6_ok nmX6 hown hE.1 hP hD hS 137 (show 137 < n by omega) ((g_137 cy ad) _) rfl 18 (by decide) hf147 (fun _ h9 => h9) rfl (by decide +kernel) rfl rfl (by simp) (((g_137 cy ad) _).trans (by simp [st_at])) dX6_poke_61 (fun H locs hP hS => ?_)
            exact W.vret hx hb hr (fun t ht hW => ⟨⟨(st (st (st M 137 0 (nI 0)) 151 (vN x) v) 137 18 (nI (b + 0))), rfl, Or.inl ⟨by omega, by omega, by omega, by rw [if_neg (by omega)]; rfl⟩, (by show va_P D vwCl _ t.heap; rw [ht]; exact hP)⟩, hS.F ht⟩) hS.2.2 dX6_poke_64
          · have c_52 := (o_eq (by omega) _).mp c_52
            refine lv_iconst (v := (nI 1)) hx hb dX6_poke_55 (by decide) ?_
            refine lv_goto (tgt := 60) hx hb dX6_poke_56 (by decide) ?_
            refine lv_iadd hx hb dX6_poke_60 ?_
            refine wr_top (y := (nI (b + 1))) (nI_add _ _) ?_
            refine wr_put (cy := cy) (ad := ad) (ex := []) (ci := 5) (C := RX6) (T := TX6) (N := 27) (ty := .int) hx hb hts hin_RX6 tyX6 tyX6_ok nmX6 hown hE.1 hP hD hS 137 (show 137 < n by omega) ((g_137 cy ad) _) rfl 18 (by decide) hf147 (fun _ h9 => h9) rfl (by decide +kernel) rfl rfl (by simp) (((g_137 cy ad) _).trans (by simp [st_at])) dX6_poke_61 (fun H locs hP hS => ?_)
            exact W.vret hx hb hr (fun t ht hW => ⟨⟨(st (st (st M 137 0 (nI 0)) 151 (vN x) v) 137 18 (nI (b + 1))), rfl, Or.inl ⟨by omega, by omega, by omega, by rw [if_pos (by omega)]⟩, (by show va_P D vwCl _ t.heap; rw [ht]; exact hP)⟩, hS.F ht⟩) hS.2.2 dX6_poke_64
      · have c_17 := mt (o_ge (by omega) _).mpr c_17
        refine lv_iconst (v := (nI 1)) hx hb dX6_poke_20 (by decide) ?_
        refine lv_goto (tgt := 25) hx hb dX6_poke_21 (by decide) ?_
        refine wr_put (cy := cy) (ad := ad) (ex := []) (ci := 5) (C := RX6) (T := TX6) (N := 27) (ty := .int) hx hb hts hin_RX6 tyX6 tyX6_ok nmX6 hown hE.1 hP hD hS 137 (show 137 < n by omega) ((g_137 cy ad) _) rfl 0 (by decide) hf63 (fun _ h9 => h9) rfl (by decide +kernel) rfl rfl (by simp) (((g_137 cy ad) _).trans (by simp [st_at])) dX6_poke_25 (fun H locs hP hS => ?_)
        refine lv_aload_n hx hb dX6_poke_28 rfl (lv_at hl 0 rfl) ?_
        refine va_get (D := D) (ci := 5) (v := .int ((st M 137 0 (nI 1)) 137 0)) (C := RX6) (T := TX6) (N := 27) hx hb hts hin_RX6 hown hE.1 hP 137 (wd_at (M := (st M 137 0 (nI 1))) (show 137 < n by omega) ((g_137 cy ad) _)) rfl 0 (by decide) hf63 (fun _ h9 => h9) rfl dX6_poke_29 ?_
        refine wr_top (y := (nI 1)) (st_s _ _ _ _) ?_
        refine lv_if_ne (tgt := 64) hx hb dX6_poke_32 (by decide) (fun c_32 => ?_) (fun c_32 => ?_)
        · have c_32 := mt (o_eq0 _).mpr c_32
          rw [nI_toInt (by omega)] at c_32
          exact W.vret hx hb hr (fun t ht hW => ⟨⟨(st M 137 0 (nI 1)), rfl, Or.inr ⟨by omega, rfl⟩, (by show va_P D vwCl _ t.heap; rw [ht]; exact hP)⟩, hS.F ht⟩) hS.2.2 dX6_poke_64
        · exact absurd c_32 (by decide)

set_option maxHeartbeats 4000000 in
set_option maxRecDepth 100000 in
/-- model cut -/
theorem kX6_cut (l : Launch) {D : va_G} {cy ad : Nat → Nat} {n : Nat} {M : Mm} {A : Nat → Prop} (hD : ∀ M, va_D A (wd cy ad n M ++ [])) (hn : 154 ≤ n) {b : Nat} (hb0 : M 137 18 = nI b) (hb1 : b ≤ 200) {x : Int32} : Met l yX6_cut wsX6_cut ({ frames := 0, cells := 0, slots := 0, locals := 0 }) (va_Pc [.ref (ad 137), .int x] (RW D cy (wd cy ad n M ++ []) A)) (va_Qv (S := Mm) (fun u => (0 ≤ x.toInt ∧ x.toInt ≤ (b : Int) ∧ u = st (st M 137 0 (nI 0)) 137 18 x) ∨ (¬ (0 ≤ x.toInt ∧ x.toInt ≤ (b : Int)) ∧ u = st (st M 137 0 (nI 1)) 137 18 (nI b))) (fun u t => va_P D vwCl (wd cy ad n u ++ []) t.heap) A) 0 0 A := by
  refine Met.ofW (cc := cX6_cut) (maxL := 2) (ret := none) (by decide +kernel) rfl ?_
  intro p e s m args below meth c s₁ B hml hv
  obtain ⟨rfl, hP, hE, hA⟩ := hv
  have hx := B.exec
  have hb := B.bytes
  have hr := B.returns
  have hts := atoms_spec (ws := wsX6_cut) B.pre
  have hown : s.vm.findClass RX6 = some m.cls := findClass_of_methodNamed B.named
  have hlocks := B.notSynchronized
  have hf147 : (Cond.fieldLink RX6 147 "RingPetitionModel" "bundled" "I").before #[.ref (ad 137), .int x] s = true := hts _ (by decide +kernel)
  have hf63 : (Cond.fieldLink RX6 63 "RingPetitionModel" "thrown" "I").before #[.ref (ad 137), .int x] s = true := hts _ (by decide +kernel)
  have hin_RX6 : ∀ w ∈ u_ws RX6 TX6 27, w ∈ wsX6_cut := by decide +kernel
  have hS : va_S A s.heap s.heap [] := va_S.rf
  have hl := lv_entry ([.ref (ad 137), .int x]) (n := 2) (Nat.le_of_ble_eq_true rfl)
  rw [lg_entry_eq]
  generalize (lg_sl ([.ref (ad 137), .int x]) ++ List.replicate (2 - (lg_sl ([.ref (ad 137), .int x])).length) Slot.unset).toArray = ls at hl ⊢
  have hl : lv_has ls 2 [(0, .ref (ad 137)), (1, .int x)] := hl
  refine lv_aload_n hx hb dX6_cut_0 rfl (lv_at hl 0 rfl) ?_
  refine lv_iload_n hx hb dX6_cut_1 rfl (lv_at hl 1 rfl) ?_
  refine lv_if_lt (tgt := 13) hx hb dX6_cut_2 (by decide) (fun c_2 => ?_) (fun c_2 => ?_)
  · have c_2 := (o_lt0 _).mp c_2
    refine lv_iconst (v := (nI 1)) hx hb dX6_cut_13 (by decide) ?_
    refine lv_goto (tgt := 18) hx hb dX6_cut_14 (by decide) ?_
    refine wr_put (cy := cy) (ad := ad) (ex := []) (ci := 5) (C := RX6) (T := TX6) (N := 27) (ty := .int) hx hb hts hin_RX6 tyX6 tyX6_ok nmX6 hown hE.1 hP hD hS 137 (show 137 < n by omega) ((g_137 cy ad) _) rfl 0 (by decide) hf63 (fun _ h9 => h9) rfl (by decide +kernel) rfl rfl (by simp) (((g_137 cy ad) _).trans (by simp [st_at])) dX6_cut_18 (fun H locs hP hS => ?_)
    refine lv_aload_n hx hb dX6_cut_21 rfl (lv_at hl 0 rfl) ?_
    refine lv_aload_n hx hb dX6_cut_22 rfl (lv_at hl 0 rfl) ?_
    refine va_get (D := D) (ci := 5) (v := .int ((st M 137 0 (nI 1)) 137 0)) (C := RX6) (T := TX6) (N := 27) hx hb hts hin_RX6 hown hE.1 hP 137 (wd_at (M := (st M 137 0 (nI 1))) (show 137 < n by omega) ((g_137 cy ad) _)) rfl 0 (by decide) hf63 (fun _ h9 => h9) rfl dX6_cut_23 ?_
    refine wr_top (y := (nI 1)) (st_s _ _ _ _) ?_
    refine lv_if_ne (tgt := 33) hx hb dX6_cut_26 (by decide) (fun c_26 => ?_) (fun c_26 => ?_)
    · have c_26 := mt (o_eq0 _).mpr c_26
      rw [nI_toInt (by omega)] at c_26
      refine lv_aload_n hx hb dX6_cut_33 rfl (lv_at hl 0 rfl) ?_
      refine va_get (D := D) (ci := 5) (v := .int ((st M 137 0 (nI 1)) 137 18)) (C := RX6) (T := TX6) (N := 27) hx hb hts hin_RX6 hown hE.1 hP 137 (wd_at (M := (st M 137 0 (nI 1))) (show 137 < n by omega) ((g_137 cy ad) _)) rfl 18 (by decide) hf147 (fun _ h9 => h9) rfl dX6_cut_34 ?_
      refine wr_top (y := (M 137 18)) (st_c _ _ _ (by decide)) ?_
      refine wr_top (y := (nI b)) hb0 ?_
      refine wr_put (cy := cy) (ad := ad) (ex := []) (ci := 5) (C := RX6) (T := TX6) (N := 27) (ty := .int) hx hb hts hin_RX6 tyX6 tyX6_ok nmX6 hown hE.1 hP hD hS 137 (show 137 < n by omega) ((g_137 cy ad) _) rfl 18 (by decide) hf147 (fun _ h9 => h9) rfl (by decide +kernel) rfl rfl (by simp) (((g_137 cy ad) _).trans (by simp [st_at])) dX6_cut_37 (fun H locs hP hS => ?_)
      exact W.vret hx hb hr (fun t ht hW => ⟨⟨(st (st M 137 0 (nI 1)) 137 18 (nI b)), rfl, Or.inr ⟨by omega, rfl⟩, (by show va_P D vwCl _ t.heap; rw [ht]; exact hP)⟩, hS.F ht⟩) hS.2.2 dX6_cut_40
    · exact absurd c_26 (by decide)
  · have c_2 := mt (o_lt0 _).mpr c_2
    refine lv_iload_n hx hb dX6_cut_5 rfl (lv_at hl 1 rfl) ?_
    refine lv_aload_n hx hb dX6_cut_6 rfl (lv_at hl 0 rfl) ?_
    refine va_get (D := D) (ci := 5) (v := .int (M 137 18)) (C := RX6) (T := TX6) (N := 27) hx hb hts hin_RX6 hown hE.1 hP 137 (wd_at (M := M) (show 137 < n by omega) ((g_137 cy ad) _)) rfl 18 (by decide) hf147 (fun _ h9 => h9) rfl dX6_cut_7 ?_
    refine wr_top (y := (nI b)) hb0 ?_
    refine lv_icmp_le (tgt := 17) hx hb dX6_cut_10 (by decide) (fun c_10 => ?_) (fun c_10 => ?_)
    · have c_10 := (o_ge (by omega) _).mp c_10
      refine lv_iconst (v := (nI 0)) hx hb dX6_cut_17 (by decide) ?_
      refine wr_put (cy := cy) (ad := ad) (ex := []) (ci := 5) (C := RX6) (T := TX6) (N := 27) (ty := .int) hx hb hts hin_RX6 tyX6 tyX6_ok nmX6 hown hE.1 hP hD hS 137 (show 137 < n by omega) ((g_137 cy ad) _) rfl 0 (by decide) hf63 (fun _ h9 => h9) rfl (by decide +kernel) rfl rfl (by simp) (((g_137 cy ad) _).trans (by simp [st_at])) dX6_cut_18 (fun H locs hP hS => ?_)
      refine lv_aload_n hx hb dX6_cut_21 rfl (lv_at hl 0 rfl) ?_
      refine lv_aload_n hx hb dX6_cut_22 rfl (lv_at hl 0 rfl) ?_
      refine va_get (D := D) (ci := 5) (v := .int ((st M 137 0 (nI 0)) 137 0)) (C := RX6) (T := TX6) (N := 27) hx hb hts hin_RX6 hown hE.1 hP 137 (wd_at (M := (st M 137 0 (nI 0))) (show 137 < n by omega) ((g_137 cy ad) _)) rfl 0 (by decide) hf63 (fun _ h9 => h9) rfl dX6_cut_23 ?_
      refine wr_top (y := (nI 0)) (st_s _ _ _ _) ?_
      refine lv_if_ne (tgt := 33) hx hb dX6_cut_26 (by decide) (fun c_26 => ?_) (fun c_26 => ?_)
      · exact absurd c_26 (by decide)
      · have c_26 := (o_eq0 _).mp c_26
        rw [nI_toInt (by omega)] at c_26
        refine lv_iload_n hx hb dX6_cut_29 rfl (lv_at hl 1 rfl) ?_
        refine lv_goto (tgt := 37) hx hb dX6_cut_30 (by decide) ?_
        refine wr_put (cy := cy) (ad := ad) (ex := []) (ci := 5) (C := RX6) (T := TX6) (N := 27) (ty := .int) hx hb hts hin_RX6 tyX6 tyX6_ok nmX6 hown hE.1 hP hD hS 137 (show 137 < n by omega) ((g_137 cy ad) _) rfl 18 (by decide) hf147 (fun _ h9 => h9) rfl (by decide +kernel) rfl rfl (by simp) (((g_137 cy ad) _).trans (by simp [st_at])) dX6_cut_37 (fun H locs hP hS => ?_)
        exact W.vret hx hb hr (fun t ht hW => ⟨⟨(st (st M 137 0 (nI 0)) 137 18 x), rfl, Or.inl ⟨by omega, by omega, rfl⟩, (by show va_P D vwCl _ t.heap; rw [ht]; exact hP)⟩, hS.F ht⟩) hS.2.2 dX6_cut_40
    · have c_10 := mt (o_ge (by omega) _).mpr c_10
      refine lv_iconst (v := (nI 1)) hx hb dX6_cut_13 (by decide) ?_
      refine lv_goto (tgt := 18) hx hb dX6_cut_14 (by decide) ?_
      refine wr_put (cy := cy) (ad := ad) (ex := []) (ci := 5) (C := RX6) (T := TX6) (N := 27) (ty := .int) hx hb hts hin_RX6 tyX6 tyX6_ok nmX6 hown hE.1 hP hD hS 137 (show 137 < n by omega) ((g_137 cy ad) _) rfl 0 (by decide) hf63 (fun _ h9 => h9) rfl (by decide +kernel) rfl rfl (by simp) (((g_137 cy ad) _).trans (by simp [st_at])) dX6_cut_18 (fun H locs hP hS => ?_)
      refine lv_aload_n hx hb dX6_cut_21 rfl (lv_at hl 0 rfl) ?_
      refine lv_aload_n hx hb dX6_cut_22 rfl (lv_at hl 0 rfl) ?_
      refine va_get (D := D) (ci := 5) (v := .int ((st M 137 0 (nI 1)) 137 0)) (C := RX6) (T := TX6) (N := 27) hx hb hts hin_RX6 hown hE.1 hP 137 (wd_at (M := (st M 137 0 (nI 1))) (show 137 < n by omega) ((g_137 cy ad) _)) rfl 0 (by decide) hf63 (fun _ h9 => h9) rfl dX6_cut_23 ?_
      refine wr_top (y := (nI 1)) (st_s _ _ _ _) ?_
      refine lv_if_ne (tgt := 33) hx hb dX6_cut_26 (by decide) (fun c_26 => ?_) (fun c_26 => ?_)
      · have c_26 := mt (o_eq0 _).mpr c_26
        rw [nI_toInt (by omega)] at c_26
        refine lv_aload_n hx hb dX6_cut_33 rfl (lv_at hl 0 rfl) ?_
        refine va_get (D := D) (ci := 5) (v := .int ((st M 137 0 (nI 1)) 137 18)) (C := RX6) (T := TX6) (N := 27) hx hb hts hin_RX6 hown hE.1 hP 137 (wd_at (M := (st M 137 0 (nI 1))) (show 137 < n by omega) ((g_137 cy ad) _)) rfl 18 (by decide) hf147 (fun _ h9 => h9) rfl dX6_cut_34 ?_
        refine wr_top (y := (M 137 18)) (st_c _ _ _ (by decide)) ?_
        refine wr_top (y := (nI b)) hb0 ?_
        refine wr_put (cy := cy) (ad := ad) (ex := []) (ci := 5) (C := RX6) (T := TX6) (N := 27) (ty := .int) hx hb hts hin_RX6 tyX6 tyX6_ok nmX6 hown hE.1 hP hD hS 137 (show 137 < n by omega) ((g_137 cy ad) _) rfl 18 (by decide) hf147 (fun _ h9 => h9) rfl (by decide +kernel) rfl rfl (by simp) (((g_137 cy ad) _).trans (by simp [st_at])) dX6_cut_37 (fun H locs hP hS => ?_)
        exact W.vret hx hb hr (fun t ht hW => ⟨⟨(st (st M 137 0 (nI 1)) 137 18 (nI b)), rfl, Or.inr ⟨by omega, rfl⟩, (by show va_P D vwCl _ t.heap; rw [ht]; exact hP)⟩, hS.F ht⟩) hS.2.2 dX6_cut_40
      · exact absurd c_26 (by decide)

set_option maxHeartbeats 4000000 in
set_option maxRecDepth 100000 in
/-- model close -/
theorem kX6_close (l : Launch) {D : va_G} {cy ad : Nat → Nat} {n : Nat} {M : Mm} {A : Nat → Prop} (hD : ∀ M, va_D A (wd cy ad n M ++ [])) (hn : 154 ≤ n) {tc : Nat} (htc : M 137 8 = nI tc) (htc6 : tc ≤ 6) {x : Int32} : Met l yX6_close wsX6_close ({ frames := 1, cells := 0, slots := 0, locals := 21 }) (va_Pc [.ref (ad 137), .int x] (RW D cy (wd cy ad n M ++ []) A)) (va_Qi (S := Mm) (fun r u => (0 ≤ x.toInt ∧ x.toInt < (tc : Int) ∧ r = M 146 (vN x) ∧ M 145 (vN x) = 0 ∧ u = st (st M 137 0 (nI 0)) 145 (vN x) (nI 1)) ∨ (¬ (0 ≤ x.toInt ∧ x.toInt < (tc : Int)) ∧ u = (st M 137 0 (nI 1))) ∨ (0 ≤ x.toInt ∧ x.toInt < (tc : Int) ∧ ¬ M 145 (vN x) = 0 ∧ u = (st M 137 0 (nI 2)))) (fun u t => va_P D vwCl (wd cy ad n u ++ []) t.heap) A) 0 0 A := by
  refine Met.ofW (cc := cX6_close) (maxL := 2) (ret := (some .int)) (by decide +kernel) rfl ?_
  intro p e s m args below meth c s₁ B hml hv
  obtain ⟨rfl, hP, hE, hA⟩ := hv
  have hx := B.exec
  have hb := B.bytes
  have hr := B.returns
  have hts := atoms_spec (ws := wsX6_close) B.pre
  have hown : s.vm.findClass RX6 = some m.cls := findClass_of_methodNamed B.named
  have hlocks := B.notSynchronized
  have hf31 : (Cond.fieldLink RX6 31 "RingPetitionModel" "closed" "[Z").before #[.ref (ad 137), .int x] s = true := hts _ (by decide +kernel)
  have hf35 : (Cond.fieldLink RX6 35 "RingPetitionModel" "stored" "[I").before #[.ref (ad 137), .int x] s = true := hts _ (by decide +kernel)
  have hf63 : (Cond.fieldLink RX6 63 "RingPetitionModel" "thrown" "I").before #[.ref (ad 137), .int x] s = true := hts _ (by decide +kernel)
  have hin_RX6 : ∀ w ∈ u_ws RX6 TX6 27, w ∈ wsX6_close := by decide +kernel
  have hS : va_S A s.heap s.heap [] := va_S.rf
  have hl := lv_entry ([.ref (ad 137), .int x]) (n := 2) (Nat.le_of_ble_eq_true rfl)
  rw [lg_entry_eq]
  generalize (lg_sl ([.ref (ad 137), .int x]) ++ List.replicate (2 - (lg_sl ([.ref (ad 137), .int x])).length) Slot.unset).toArray = ls at hl ⊢
  have hl : lv_has ls 2 [(0, .ref (ad 137)), (1, .int x)] := hl
  refine lv_aload_n hx hb dX6_close_0 rfl (lv_at hl 0 rfl) ?_
  refine lv_aload_n hx hb dX6_close_1 rfl (lv_at hl 0 rfl) ?_
  refine lv_iload_n hx hb dX6_close_2 rfl (lv_at hl 1 rfl) ?_
  refine vp_callSi (W.runV (As := [.int x]) (rest := [.ref (ad 137)]) ⟨hx, hb, hml, hown, hts⟩ (kX6_noTopic l hn htc (by omega)) (cwV 1 hts gX6_close_X6_noTopic rfl rfl rfl (by decide +kernel) ⟨Nat.le_of_ble_eq_true rfl, Nat.le_of_ble_eq_true rfl⟩) (ro_pv (ci := 5) (q := (RX6, TX6, 27)) hE hP rfl (wd_at (M := M) (show 137 < n by omega) ((g_137 cy ad) _))) rfl rfl hl.1 rfl (lv_room (Nat.le_of_ble_eq_true rfl)) dX6_close_3 ⟨Nat.le_of_ble_eq_true rfl, Nat.le_of_ble_eq_true rfl⟩) (fun r_3 hr_3 => ?_)
  rcases hr_3 with ⟨hq_3, rfl⟩ | ⟨hq_3, rfl⟩
  · refine lv_if_eq (tgt := 13) hx hb dX6_close_6 (by decide) (fun c_6 => ?_) (fun c_6 => ?_)
    · exact absurd c_6 (by decide)
    · have c_6 := mt (o_eq0 _).mpr c_6
      refine lv_iconst (v := (nI 1)) hx hb dX6_close_9 (by decide) ?_
      refine lv_goto (tgt := 27) hx hb dX6_close_10 (by decide) ?_
      refine wr_put (cy := cy) (ad := ad) (ex := []) (ci := 5) (C := RX6) (T := TX6) (N := 27) (ty := .int) hx hb hts hin_RX6 tyX6 tyX6_ok nmX6 hown hE.1 hP hD hS 137 (show 137 < n by omega) ((g_137 cy ad) _) rfl 0 (by decide) hf63 (fun _ h9 => h9) rfl (by decide +kernel) rfl rfl (by simp) (((g_137 cy ad) _).trans (by simp [st_at])) dX6_close_27 (fun H locs hP hS => ?_)
      refine lv_aload_n hx hb dX6_close_30 rfl (lv_at hl 0 rfl) ?_
      refine va_get (D := D) (ci := 5) (v := .int ((st M 137 0 (nI 1)) 137 0)) (C := RX6) (T := TX6) (N := 27) hx hb hts hin_RX6 hown hE.1 hP 137 (wd_at (M := (st M 137 0 (nI 1))) (show 137 < n by omega) ((g_137 cy ad) _)) rfl 0 (by decide) hf63 (fun _ h9 => h9) rfl dX6_close_31 ?_
      refine wr_top (y := (nI 1)) (st_s _ _ _ _) ?_
      refine lv_if_eq (tgt := 39) hx hb dX6_close_34 (by decide) (fun c_34 => ?_) (fun c_34 => ?_)
      · exact absurd c_34 (by decide)
      · have c_34 := mt (o_eq0 _).mpr c_34
        rw [nI_toInt (by omega)] at c_34
        refine lv_iconst (v := (nI 0)) hx hb dX6_close_37 (by decide) ?_
        exact W.iret (v := (nI 0)) hx hb hr (fun t ht hW => ⟨⟨(nI 0), (st M 137 0 (nI 1)), rfl, Or.inr (Or.inl ⟨by omega, rfl⟩), (by show va_P D vwCl _ t.heap; rw [ht]; exact hP)⟩, hS.F ht⟩) hS.2.2 dX6_close_38
  · refine lv_if_eq (tgt := 13) hx hb dX6_close_6 (by decide) (fun c_6 => ?_) (fun c_6 => ?_)
    · have c_6 := (o_eq0 _).mp c_6
      refine lv_aload_n hx hb dX6_close_13 rfl (lv_at hl 0 rfl) ?_
      refine va_get (D := D) (ci := 5) (v := .ref (ad 145)) (C := RX6) (T := TX6) (N := 27) hx hb hts hin_RX6 hown hE.1 hP 137 (wd_at (M := M) (show 137 < n by omega) ((g_137 cy ad) _)) rfl 11 (by decide) hf31 (fun _ h9 => h9) rfl dX6_close_14 ?_
      refine lv_iload_n hx hb dX6_close_17 rfl (lv_at hl 1 rfl) ?_
      refine wr_zald (cy := cy) (ad := ad) (ex := []) hx hb hE.1 hP 145 (show 145 < n by omega) ((g_145 cy ad) _) (vN x) (x_vN (by omega)) (by rw [vN_toInt]; omega) (by decide) dX6_close_18 ?_
      refine lv_if_eq (tgt := 26) hx hb dX6_close_19 (by decide) (fun c_19 => ?_) (fun c_19 => ?_)
      · refine lv_iconst (v := (nI 0)) hx hb dX6_close_26 (by decide) ?_
        refine wr_put (cy := cy) (ad := ad) (ex := []) (ci := 5) (C := RX6) (T := TX6) (N := 27) (ty := .int) hx hb hts hin_RX6 tyX6 tyX6_ok nmX6 hown hE.1 hP hD hS 137 (show 137 < n by omega) ((g_137 cy ad) _) rfl 0 (by decide) hf63 (fun _ h9 => h9) rfl (by decide +kernel) rfl rfl (by simp) (((g_137 cy ad) _).trans (by simp [st_at])) dX6_close_27 (fun H locs hP hS => ?_)
        refine lv_aload_n hx hb dX6_close_30 rfl (lv_at hl 0 rfl) ?_
        refine va_get (D := D) (ci := 5) (v := .int ((st M 137 0 (nI 0)) 137 0)) (C := RX6) (T := TX6) (N := 27) hx hb hts hin_RX6 hown hE.1 hP 137 (wd_at (M := (st M 137 0 (nI 0))) (show 137 < n by omega) ((g_137 cy ad) _)) rfl 0 (by decide) hf63 (fun _ h9 => h9) rfl dX6_close_31 ?_
        refine wr_top (y := (nI 0)) (st_s _ _ _ _) ?_
        refine lv_if_eq (tgt := 39) hx hb dX6_close_34 (by decide) (fun c_34 => ?_) (fun c_34 => ?_)
        · have c_34 := (o_eq0 _).mp c_34
          rw [nI_toInt (by omega)] at c_34
          refine lv_aload_n hx hb dX6_close_39 rfl (lv_at hl 0 rfl) ?_
          refine va_get (D := D) (ci := 5) (v := .ref (ad 145)) (C := RX6) (T := TX6) (N := 27) hx hb hts hin_RX6 hown hE.1 hP 137 (wd_at (M := (st M 137 0 (nI 0))) (show 137 < n by omega) ((g_137 cy ad) _)) rfl 11 (by decide) hf31 (fun _ h9 => h9) rfl dX6_close_40 ?_
          refine lv_iload_n hx hb dX6_close_43 rfl (lv_at hl 1 rfl) ?_
          refine lv_iconst (v := (nI 1)) hx hb dX6_close_44 (by decide) ?_
          refine wr_zast (cy := cy) (ad := ad) (ex := []) hx hb hE.1 hP hD hS 145 (show 145 < n by omega) (g_145 cy ad) (vN x) (by decide) (x_vN (by omega)) (by rw [vN_toInt]; omega) (by decide) dX6_close_45 (fun H locs hP hS => ?_)
          refine lv_aload_n hx hb dX6_close_46 rfl (lv_at hl 0 rfl) ?_
          refine va_get (D := D) (ci := 5) (v := .ref (ad 146)) (C := RX6) (T := TX6) (N := 27) hx hb hts hin_RX6 hown hE.1 hP 137 (wd_at (M := (st (st M 137 0 (nI 0)) 145 (vN x) (nI 1))) (show 137 < n by omega) ((g_137 cy ad) _)) rfl 12 (by decide) hf35 (fun _ h9 => h9) rfl dX6_close_47 ?_
          refine lv_iload_n hx hb dX6_close_50 rfl (lv_at hl 1 rfl) ?_
          refine wr_ald (cy := cy) (ad := ad) (ex := []) hx hb hE.1 hP 146 (show 146 < n by omega) ((g_146 cy ad) _) (vN x) (x_vN (by omega)) (by rw [vN_toInt]; omega) (by decide) dX6_close_51 ?_
          refine wr_top (y := ((st M 137 0 (nI 0)) 146 (vN x))) (by rw [st_r _ _ _ (by decide)]) ?_
          refine wr_top (y := (M 146 (vN x))) (by rw [st_r _ _ _ (by decide)]) ?_
          exact W.iret (v := (M 146 (vN x))) hx hb hr (fun t ht hW => ⟨⟨(M 146 (vN x)), (st (st M 137 0 (nI 0)) 145 (vN x) (nI 1)), rfl, Or.inl ⟨by omega, by omega, rfl, c_19, rfl⟩, (by show va_P D vwCl _ t.heap; rw [ht]; exact hP)⟩, hS.F ht⟩) hS.2.2 dX6_close_52
        · exact absurd c_34 (by decide)
      · refine lv_iconst (v := (nI 2)) hx hb dX6_close_22 (by decide) ?_
        refine lv_goto (tgt := 27) hx hb dX6_close_23 (by decide) ?_
        refine wr_put (cy := cy) (ad := ad) (ex := []) (ci := 5) (C := RX6) (T := TX6) (N := 27) (ty := .int) hx hb hts hin_RX6 tyX6 tyX6_ok nmX6 hown hE.1 hP hD hS 137 (show 137 < n by omega) ((g_137 cy ad) _) rfl 0 (by decide) hf63 (fun _ h9 => h9) rfl (by decide +kernel) rfl rfl (by simp) (((g_137 cy ad) _).trans (by simp [st_at])) dX6_close_27 (fun H locs hP hS => ?_)
        refine lv_aload_n hx hb dX6_close_30 rfl (lv_at hl 0 rfl) ?_
        refine va_get (D := D) (ci := 5) (v := .int ((st M 137 0 (nI 2)) 137 0)) (C := RX6) (T := TX6) (N := 27) hx hb hts hin_RX6 hown hE.1 hP 137 (wd_at (M := (st M 137 0 (nI 2))) (show 137 < n by omega) ((g_137 cy ad) _)) rfl 0 (by decide) hf63 (fun _ h9 => h9) rfl dX6_close_31 ?_
        refine wr_top (y := (nI 2)) (st_s _ _ _ _) ?_
        refine lv_if_eq (tgt := 39) hx hb dX6_close_34 (by decide) (fun c_34 => ?_) (fun c_34 => ?_)
        · exact absurd c_34 (by decide)
        · have c_34 := mt (o_eq0 _).mpr c_34
          rw [nI_toInt (by omega)] at c_34
          refine lv_iconst (v := (nI 0)) hx hb dX6_close_37 (by decide) ?_
          exact W.iret (v := (nI 0)) hx hb hr (fun t ht hW => ⟨⟨(nI 0), (st M 137 0 (nI 2)), rfl, Or.inr (Or.inr ⟨by omega, by omega, c_19, rfl⟩), (by show va_P D vwCl _ t.heap; rw [ht]; exact hP)⟩, hS.F ht⟩) hS.2.2 dX6_close_38
    · exact absurd c_6 (by decide)

set_option maxHeartbeats 4000000 in
set_option maxRecDepth 100000 in
/-- model seen -/
theorem kX6_seen (l : Launch) {D : va_G} {cy ad : Nat → Nat} {n : Nat} {M : Mm} {A : Nat → Prop} (hD : ∀ M, va_D A (wd cy ad n M ++ [])) (hn : 154 ≤ n) {tc : Nat} (htc : M 137 8 = nI tc) (htc6 : tc ≤ 6) {x : Int32} {sc : Nat} (hsc : M 146 (vN x) = nI sc) (hsc8 : sc ≤ 8) : Met l yX6_seen wsX6_seen ({ frames := 1, cells := 0, slots := 0, locals := 25 }) (va_Pc [.ref (ad 137), .int x] (RW D cy (wd cy ad n M ++ []) A)) (va_Qi (S := Mm) (fun r u => (0 ≤ x.toInt ∧ x.toInt < (tc : Int) ∧ bP (∃ k, k < sc ∧ M 149 (8 * (8 * vN x + k) + 1) = M 150 1) r ∧ u = (st M 137 0 (nI 0))) ∨ (¬ (0 ≤ x.toInt ∧ x.toInt < (tc : Int)) ∧ u = (st M 137 0 (nI 1)))) (fun u t => va_P D vwCl (wd cy ad n u ++ []) t.heap) A) 0 0 A := by
  refine Met.ofW (cc := cX6_seen) (maxL := 2) (ret := (some .boolean)) (by decide +kernel) rfl ?_
  intro p e s m args below meth c s₁ B hml hv
  obtain ⟨rfl, hP, hE, hA⟩ := hv
  have hx := B.exec
  have hb := B.bytes
  have hr := B.returns
  have hts := atoms_spec (ws := wsX6_seen) B.pre
  have hown : s.vm.findClass RX6 = some m.cls := findClass_of_methodNamed B.named
  have hlocks := B.notSynchronized
  have hf35 : (Cond.fieldLink RX6 35 "RingPetitionModel" "stored" "[I").before #[.ref (ad 137), .int x] s = true := hts _ (by decide +kernel)
  have hf51 : (Cond.fieldLink RX6 51 "RingPetitionModel" "drafted" "[I").before #[.ref (ad 137), .int x] s = true := hts _ (by decide +kernel)
  have hf63 : (Cond.fieldLink RX6 63 "RingPetitionModel" "thrown" "I").before #[.ref (ad 137), .int x] s = true := hts _ (by decide +kernel)
  have hin_RX6 : ∀ w ∈ u_ws RX6 TX6 27, w ∈ wsX6_seen := by decide +kernel
  have hS : va_S A s.heap s.heap [] := va_S.rf
  have hl := lv_entry ([.ref (ad 137), .int x]) (n := 2) (Nat.le_of_ble_eq_true rfl)
  rw [lg_entry_eq]
  generalize (lg_sl ([.ref (ad 137), .int x]) ++ List.replicate (2 - (lg_sl ([.ref (ad 137), .int x])).length) Slot.unset).toArray = ls at hl ⊢
  have hl : lv_has ls 2 [(0, .ref (ad 137)), (1, .int x)] := hl
  refine lv_aload_n hx hb dX6_seen_0 rfl (lv_at hl 0 rfl) ?_
  refine lv_aload_n hx hb dX6_seen_1 rfl (lv_at hl 0 rfl) ?_
  refine lv_iload_n hx hb dX6_seen_2 rfl (lv_at hl 1 rfl) ?_
  refine vp_callSi (W.runV (As := [.int x]) (rest := [.ref (ad 137)]) ⟨hx, hb, hml, hown, hts⟩ (kX6_noTopic l hn htc (by omega)) (cwV 1 hts gX6_seen_X6_noTopic rfl rfl rfl (by decide +kernel) ⟨Nat.le_of_ble_eq_true rfl, Nat.le_of_ble_eq_true rfl⟩) (ro_pv (ci := 5) (q := (RX6, TX6, 27)) hE hP rfl (wd_at (M := M) (show 137 < n by omega) ((g_137 cy ad) _))) rfl rfl hl.1 rfl (lv_room (Nat.le_of_ble_eq_true rfl)) dX6_seen_3 ⟨Nat.le_of_ble_eq_true rfl, Nat.le_of_ble_eq_true rfl⟩) (fun r_3 hr_3 => ?_)
  rcases hr_3 with ⟨hq_3, rfl⟩ | ⟨hq_3, rfl⟩
  · refine lv_if_eq (tgt := 13) hx hb dX6_seen_6 (by decide) (fun c_6 => ?_) (fun c_6 => ?_)
    · exact absurd c_6 (by decide)
    · have c_6 := mt (o_eq0 _).mpr c_6
      refine lv_iconst (v := (nI 1)) hx hb dX6_seen_9 (by decide) ?_
      refine lv_goto (tgt := 14) hx hb dX6_seen_10 (by decide) ?_
      refine wr_put (cy := cy) (ad := ad) (ex := []) (ci := 5) (C := RX6) (T := TX6) (N := 27) (ty := .int) hx hb hts hin_RX6 tyX6 tyX6_ok nmX6 hown hE.1 hP hD hS 137 (show 137 < n by omega) ((g_137 cy ad) _) rfl 0 (by decide) hf63 (fun _ h9 => h9) rfl (by decide +kernel) rfl rfl (by simp) (((g_137 cy ad) _).trans (by simp [st_at])) dX6_seen_14 (fun H locs hP hS => ?_)
      refine lv_aload_n hx hb dX6_seen_17 rfl (lv_at hl 0 rfl) ?_
      refine va_get (D := D) (ci := 5) (v := .int ((st M 137 0 (nI 1)) 137 0)) (C := RX6) (T := TX6) (N := 27) hx hb hts hin_RX6 hown hE.1 hP 137 (wd_at (M := (st M 137 0 (nI 1))) (show 137 < n by omega) ((g_137 cy ad) _)) rfl 0 (by decide) hf63 (fun _ h9 => h9) rfl dX6_seen_18 ?_
      refine wr_top (y := (nI 1)) (st_s _ _ _ _) ?_
      refine lv_if_ne (tgt := 48) hx hb dX6_seen_21 (by decide) (fun c_21 => ?_) (fun c_21 => ?_)
      · have c_21 := mt (o_eq0 _).mpr c_21
        rw [nI_toInt (by omega)] at c_21
        refine lv_iconst (v := (nI 0)) hx hb dX6_seen_48 (by decide) ?_
        exact W.zret (v := (nI 0)) hx hb hr rfl (fun t ht hW => ⟨⟨(nI 0), (st M 137 0 (nI 1)), rfl, Or.inr ⟨by omega, rfl⟩, (by show va_P D vwCl _ t.heap; rw [ht]; exact hP)⟩, hS.F ht⟩) hS.2.2 dX6_seen_49
      · exact absurd c_21 (by decide)
  · refine lv_if_eq (tgt := 13) hx hb dX6_seen_6 (by decide) (fun c_6 => ?_) (fun c_6 => ?_)
    · have c_6 := (o_eq0 _).mp c_6
      refine lv_iconst (v := (nI 0)) hx hb dX6_seen_13 (by decide) ?_
      refine wr_put (cy := cy) (ad := ad) (ex := []) (ci := 5) (C := RX6) (T := TX6) (N := 27) (ty := .int) hx hb hts hin_RX6 tyX6 tyX6_ok nmX6 hown hE.1 hP hD hS 137 (show 137 < n by omega) ((g_137 cy ad) _) rfl 0 (by decide) hf63 (fun _ h9 => h9) rfl (by decide +kernel) rfl rfl (by simp) (((g_137 cy ad) _).trans (by simp [st_at])) dX6_seen_14 (fun H locs hP hS => ?_)
      refine lv_aload_n hx hb dX6_seen_17 rfl (lv_at hl 0 rfl) ?_
      refine va_get (D := D) (ci := 5) (v := .int ((st M 137 0 (nI 0)) 137 0)) (C := RX6) (T := TX6) (N := 27) hx hb hts hin_RX6 hown hE.1 hP 137 (wd_at (M := (st M 137 0 (nI 0))) (show 137 < n by omega) ((g_137 cy ad) _)) rfl 0 (by decide) hf63 (fun _ h9 => h9) rfl dX6_seen_18 ?_
      refine wr_top (y := (nI 0)) (st_s _ _ _ _) ?_
      refine lv_if_ne (tgt := 48) hx hb dX6_seen_21 (by decide) (fun c_21 => ?_) (fun c_21 => ?_)
      · exact absurd c_21 (by decide)
      · have c_21 := (o_eq0 _).mp c_21
        rw [nI_toInt (by omega)] at c_21
        refine lv_aload_n hx hb dX6_seen_24 rfl (lv_at hl 0 rfl) ?_
        refine lv_iload_n hx hb dX6_seen_25 rfl (lv_at hl 1 rfl) ?_
        refine wr_top (y := (nI (vN x))) (x_vN (by omega)) ?_
        refine lv_aload_n hx hb dX6_seen_26 rfl (lv_at hl 0 rfl) ?_
        refine va_get (D := D) (ci := 5) (v := .ref (ad 150)) (C := RX6) (T := TX6) (N := 27) hx hb hts hin_RX6 hown hE.1 hP 137 (wd_at (M := (st M 137 0 (nI 0))) (show 137 < n by omega) ((g_137 cy ad) _)) rfl 17 (by decide) hf51 (fun _ h9 => h9) rfl dX6_seen_27 ?_
        refine lv_iconst (v := (nI 1)) hx hb dX6_seen_30 (by decide) ?_
        refine wr_ald (cy := cy) (ad := ad) (ex := []) hx hb hE.1 hP 150 (show 150 < n by omega) ((g_150 cy ad) _) 1 rfl (by omega) (by decide) dX6_seen_31 ?_
        refine wr_top (y := (M 150 1)) (by rw [st_r _ _ _ (by decide)]) ?_
        refine lv_aload_n hx hb dX6_seen_32 rfl (lv_at hl 0 rfl) ?_
        refine va_get (D := D) (ci := 5) (v := .ref (ad 146)) (C := RX6) (T := TX6) (N := 27) hx hb hts hin_RX6 hown hE.1 hP 137 (wd_at (M := (st M 137 0 (nI 0))) (show 137 < n by omega) ((g_137 cy ad) _)) rfl 12 (by decide) hf35 (fun _ h9 => h9) rfl dX6_seen_33 ?_
        refine lv_iload_n hx hb dX6_seen_36 rfl (lv_at hl 1 rfl) ?_
        refine wr_ald (cy := cy) (ad := ad) (ex := []) hx hb hE.1 hP 146 (show 146 < n by omega) ((g_146 cy ad) _) (vN x) (x_vN (by omega)) (by rw [vN_toInt]; omega) (by decide) dX6_seen_37 ?_
        refine wr_top (y := (M 146 (vN x))) (by rw [st_r _ _ _ (by decide)]) ?_
        refine wr_top (y := (nI sc)) hsc ?_
        have e149 : (st M 137 0 (nI 0)) 149 = M 149 := st_r _ _ _ (by decide)
        refine vp_callSi (W.runV (As := [.int (nI (vN x)), .int (M 150 1), .int (nI sc)]) (rest := []) ⟨hx, hb, hml, hown, hts⟩ (kX6_hasTag l hn (M := (st M 137 0 (nI 0))) (tq := vN x) (b := sc) (by rw [vN_toInt]; omega) hsc8) (cwV 3 hts gX6_seen_X6_hasTag rfl rfl rfl (by decide +kernel) ⟨Nat.le_of_ble_eq_true rfl, Nat.le_of_ble_eq_true rfl⟩) (ro_pv (ci := 5) (q := (RX6, TX6, 27)) hE hP rfl (wd_at (M := (st M 137 0 (nI 0))) (show 137 < n by omega) ((g_137 cy ad) _))) rfl rfl hl.1 rfl (lv_room (Nat.le_of_ble_eq_true rfl)) dX6_seen_38 ⟨Nat.le_of_ble_eq_true rfl, Nat.le_of_ble_eq_true rfl⟩) (fun r_38 hr_38 => ?_)
        rw [e149] at hr_38
        rcases hr_38 with ⟨hq_38, rfl⟩ | ⟨hq_38, rfl⟩
        · refine lv_if_eq (tgt := 48) hx hb dX6_seen_41 (by decide) (fun c_41 => ?_) (fun c_41 => ?_)
          · exact absurd c_41 (by decide)
          · have c_41 := mt (o_eq0 _).mpr c_41
            refine lv_iconst (v := (nI 1)) hx hb dX6_seen_44 (by decide) ?_
            refine lv_goto (tgt := 49) hx hb dX6_seen_45 (by decide) ?_
            exact W.zret (v := (nI 1)) hx hb hr rfl (fun t ht hW => ⟨⟨(nI 1), (st M 137 0 (nI 0)), rfl, Or.inl ⟨by omega, by omega, bP_1 hq_38, rfl⟩, (by show va_P D vwCl _ t.heap; rw [ht]; exact hP)⟩, hS.F ht⟩) hS.2.2 dX6_seen_49
        · refine lv_if_eq (tgt := 48) hx hb dX6_seen_41 (by decide) (fun c_41 => ?_) (fun c_41 => ?_)
          · have c_41 := (o_eq0 _).mp c_41
            refine lv_iconst (v := (nI 0)) hx hb dX6_seen_48 (by decide) ?_
            exact W.zret (v := (nI 0)) hx hb hr rfl (fun t ht hW => ⟨⟨(nI 0), (st M 137 0 (nI 0)), rfl, Or.inl ⟨by omega, by omega, bP_0 hq_38, rfl⟩, (by show va_P D vwCl _ t.heap; rw [ht]; exact hP)⟩, hS.F ht⟩) hS.2.2 dX6_seen_49
          · exact absurd c_41 (by decide)
    · exact absurd c_6 (by decide)

set_option maxHeartbeats 4000000 in
set_option maxRecDepth 100000 in
/-- model spoil -/
theorem kX6_spoil (l : Launch) {D : va_G} {cy ad : Nat → Nat} {n : Nat} {M : Mm} {A : Nat → Prop} (hD : ∀ M, va_D A (wd cy ad n M ++ [])) (hn : 154 ≤ n) {tc : Nat} (htc : M 137 8 = nI tc) (htc6 : tc ≤ 6) {x kx ix v : Int32} {rc sc : Nat} {rs sr : Nat → Nat} (hrc8 : rc ≤ 8) (hsc : M 146 (vN x) = nI sc) (hsc8 : sc ≤ 8) (hmr : mrP rc rs M) (hmt : mtP rc sr sc (vN x) M) : Met l yX6_spoil wsX6_spoil ({ frames := 1, cells := 0, slots := 0, locals := 21 }) (va_Pc [.ref (ad 137), .int x, .int kx, .int ix, .int v] (RW D cy (wd cy ad n M ++ []) A)) (va_Qv (S := Mm) (fun u => (0 ≤ x.toInt ∧ x.toInt < (tc : Int) ∧ 0 ≤ kx.toInt ∧ kx.toInt < (sc : Int) ∧ 0 ≤ ix.toInt ∧ ix.toInt < ((2 + rs (sr (vN kx)) : Nat) : Int) ∧ u = st (st M 137 0 (nI 0)) 149 (8 * (8 * vN x + vN kx) + vN ix) v) ∨ (¬ (0 ≤ x.toInt ∧ x.toInt < (tc : Int)) ∧ u = (st M 137 0 (nI 1))) ∨ (0 ≤ x.toInt ∧ x.toInt < (tc : Int) ∧ ¬ (0 ≤ kx.toInt ∧ kx.toInt < (sc : Int) ∧ 0 ≤ ix.toInt ∧ ix.toInt < ((2 + rs (sr (vN kx)) : Nat) : Int)) ∧ u = (st M 137 0 (nI 2)))) (fun u t => va_P D vwCl (wd cy ad n u ++ []) t.heap) A) 0 0 A := by
  refine Met.ofW (cc := cX6_spoil) (maxL := 5) (ret := none) (by decide +kernel) rfl ?_
  intro p e s m args below meth c s₁ B hml hv
  obtain ⟨rfl, hP, hE, hA⟩ := hv
  have hx := B.exec
  have hb := B.bytes
  have hr := B.returns
  have hts := atoms_spec (ws := wsX6_spoil) B.pre
  have hown : s.vm.findClass RX6 = some m.cls := findClass_of_methodNamed B.named
  have hlocks := B.notSynchronized
  have hf19 : (Cond.fieldLink RX6 19 "RingPetitionModel" "ringSize" "[I").before #[.ref (ad 137), .int x, .int kx, .int ix, .int v] s = true := hts _ (by decide +kernel)
  have hf35 : (Cond.fieldLink RX6 35 "RingPetitionModel" "stored" "[I").before #[.ref (ad 137), .int x, .int kx, .int ix, .int v] s = true := hts _ (by decide +kernel)
  have hf38 : (Cond.fieldLink RX6 38 "RingPetitionModel" "signRing" "[I").before #[.ref (ad 137), .int x, .int kx, .int ix, .int v] s = true := hts _ (by decide +kernel)
  have hf44 : (Cond.fieldLink RX6 44 "RingPetitionModel" "signed" "[I").before #[.ref (ad 137), .int x, .int kx, .int ix, .int v] s = true := hts _ (by decide +kernel)
  have hf63 : (Cond.fieldLink RX6 63 "RingPetitionModel" "thrown" "I").before #[.ref (ad 137), .int x, .int kx, .int ix, .int v] s = true := hts _ (by decide +kernel)
  have hin_RX6 : ∀ w ∈ u_ws RX6 TX6 27, w ∈ wsX6_spoil := by decide +kernel
  have hS : va_S A s.heap s.heap [] := va_S.rf
  have hl := lv_entry ([.ref (ad 137), .int x, .int kx, .int ix, .int v]) (n := 5) (Nat.le_of_ble_eq_true rfl)
  rw [lg_entry_eq]
  generalize (lg_sl ([.ref (ad 137), .int x, .int kx, .int ix, .int v]) ++ List.replicate (5 - (lg_sl ([.ref (ad 137), .int x, .int kx, .int ix, .int v])).length) Slot.unset).toArray = ls at hl ⊢
  have hl : lv_has ls 5 [(0, .ref (ad 137)), (1, .int x), (2, .int kx), (3, .int ix), (4, .int v)] := hl
  refine lv_aload_n hx hb dX6_spoil_0 rfl (lv_at hl 0 rfl) ?_
  refine lv_aload_n hx hb dX6_spoil_1 rfl (lv_at hl 0 rfl) ?_
  refine lv_iload_n hx hb dX6_spoil_2 rfl (lv_at hl 1 rfl) ?_
  refine vp_callSi (W.runV (As := [.int x]) (rest := [.ref (ad 137)]) ⟨hx, hb, hml, hown, hts⟩ (kX6_noTopic l hn htc (by omega)) (cwV 1 hts gX6_spoil_X6_noTopic rfl rfl rfl (by decide +kernel) ⟨Nat.le_of_ble_eq_true rfl, Nat.le_of_ble_eq_true rfl⟩) (ro_pv (ci := 5) (q := (RX6, TX6, 27)) hE hP rfl (wd_at (M := M) (show 137 < n by omega) ((g_137 cy ad) _))) rfl rfl hl.1 rfl (lv_room (Nat.le_of_ble_eq_true rfl)) dX6_spoil_3 ⟨Nat.le_of_ble_eq_true rfl, Nat.le_of_ble_eq_true rfl⟩) (fun r_3 hr_3 => ?_)
  rcases hr_3 with ⟨hq_3, rfl⟩ | ⟨hq_3, rfl⟩
  · refine lv_if_eq (tgt := 13) hx hb dX6_spoil_6 (by decide) (fun c_6 => ?_) (fun c_6 => ?_)
    · exact absurd c_6 (by decide)
    · have c_6 := mt (o_eq0 _).mpr c_6
      refine lv_iconst (v := (nI 1)) hx hb dX6_spoil_9 (by decide) ?_
      refine lv_goto (tgt := 62) hx hb dX6_spoil_10 (by decide) ?_
      refine wr_put (cy := cy) (ad := ad) (ex := []) (ci := 5) (C := RX6) (T := TX6) (N := 27) (ty := .int) hx hb hts hin_RX6 tyX6 tyX6_ok nmX6 hown hE.1 hP hD hS 137 (show 137 < n by omega) ((g_137 cy ad) _) rfl 0 (by decide) hf63 (fun _ h9 => h9) rfl (by decide +kernel) rfl rfl (by simp) (((g_137 cy ad) _).trans (by simp [st_at])) dX6_spoil_62 (fun H locs hP hS => ?_)
      refine lv_aload_n hx hb dX6_spoil_65 rfl (lv_at hl 0 rfl) ?_
      refine va_get (D := D) (ci := 5) (v := .int ((st M 137 0 (nI 1)) 137 0)) (C := RX6) (T := TX6) (N := 27) hx hb hts hin_RX6 hown hE.1 hP 137 (wd_at (M := (st M 137 0 (nI 1))) (show 137 < n by omega) ((g_137 cy ad) _)) rfl 0 (by decide) hf63 (fun _ h9 => h9) rfl dX6_spoil_66 ?_
      refine wr_top (y := (nI 1)) (st_s _ _ _ _) ?_
      refine lv_if_ne (tgt := 90) hx hb dX6_spoil_69 (by decide) (fun c_69 => ?_) (fun c_69 => ?_)
      · have c_69 := mt (o_eq0 _).mpr c_69
        rw [nI_toInt (by omega)] at c_69
        exact W.vret hx hb hr (fun t ht hW => ⟨⟨(st M 137 0 (nI 1)), rfl, Or.inr (Or.inl ⟨by omega, rfl⟩), (by show va_P D vwCl _ t.heap; rw [ht]; exact hP)⟩, hS.F ht⟩) hS.2.2 dX6_spoil_90
      · exact absurd c_69 (by decide)
  · refine lv_if_eq (tgt := 13) hx hb dX6_spoil_6 (by decide) (fun c_6 => ?_) (fun c_6 => ?_)
    · have c_6 := (o_eq0 _).mp c_6
      refine lv_iload_n hx hb dX6_spoil_13 rfl (lv_at hl 2 rfl) ?_
      refine lv_if_lt (tgt := 27) hx hb dX6_spoil_14 (by decide) (fun c_14 => ?_) (fun c_14 => ?_)
      · have c_14 := (o_lt0 _).mp c_14
        refine lv_iconst (v := (nI 2)) hx hb dX6_spoil_27 (by decide) ?_
        refine lv_goto (tgt := 62) hx hb dX6_spoil_28 (by decide) ?_
        refine wr_put (cy := cy) (ad := ad) (ex := []) (ci := 5) (C := RX6) (T := TX6) (N := 27) (ty := .int) hx hb hts hin_RX6 tyX6 tyX6_ok nmX6 hown hE.1 hP hD hS 137 (show 137 < n by omega) ((g_137 cy ad) _) rfl 0 (by decide) hf63 (fun _ h9 => h9) rfl (by decide +kernel) rfl rfl (by simp) (((g_137 cy ad) _).trans (by simp [st_at])) dX6_spoil_62 (fun H locs hP hS => ?_)
        refine lv_aload_n hx hb dX6_spoil_65 rfl (lv_at hl 0 rfl) ?_
        refine va_get (D := D) (ci := 5) (v := .int ((st M 137 0 (nI 2)) 137 0)) (C := RX6) (T := TX6) (N := 27) hx hb hts hin_RX6 hown hE.1 hP 137 (wd_at (M := (st M 137 0 (nI 2))) (show 137 < n by omega) ((g_137 cy ad) _)) rfl 0 (by decide) hf63 (fun _ h9 => h9) rfl dX6_spoil_66 ?_
        refine wr_top (y := (nI 2)) (st_s _ _ _ _) ?_
        refine lv_if_ne (tgt := 90) hx hb dX6_spoil_69 (by decide) (fun c_69 => ?_) (fun c_69 => ?_)
        · have c_69 := mt (o_eq0 _).mpr c_69
          rw [nI_toInt (by omega)] at c_69
          exact W.vret hx hb hr (fun t ht hW => ⟨⟨(st M 137 0 (nI 2)), rfl, Or.inr (Or.inr ⟨by omega, by omega, by omega, rfl⟩), (by show va_P D vwCl _ t.heap; rw [ht]; exact hP)⟩, hS.F ht⟩) hS.2.2 dX6_spoil_90
        · exact absurd c_69 (by decide)
      · have c_14 := mt (o_lt0 _).mpr c_14
        refine lv_iload_n hx hb dX6_spoil_17 rfl (lv_at hl 2 rfl) ?_
        refine lv_aload_n hx hb dX6_spoil_18 rfl (lv_at hl 0 rfl) ?_
        refine va_get (D := D) (ci := 5) (v := .ref (ad 146)) (C := RX6) (T := TX6) (N := 27) hx hb hts hin_RX6 hown hE.1 hP 137 (wd_at (M := M) (show 137 < n by omega) ((g_137 cy ad) _)) rfl 12 (by decide) hf35 (fun _ h9 => h9) rfl dX6_spoil_19 ?_
        refine lv_iload_n hx hb dX6_spoil_22 rfl (lv_at hl 1 rfl) ?_
        refine wr_ald (cy := cy) (ad := ad) (ex := []) hx hb hE.1 hP 146 (show 146 < n by omega) ((g_146 cy ad) _) (vN x) (x_vN (by omega)) (by rw [vN_toInt]; omega) (by decide) dX6_spoil_23 ?_
        refine wr_top (y := (nI sc)) hsc ?_
        refine lv_icmp_lt (tgt := 31) hx hb dX6_spoil_24 (by decide) (fun c_24 => ?_) (fun c_24 => ?_)
        · have c_24 := (o_gt (by omega) _).mp c_24
          have hkk : vN kx < sc := by rw [vN_toInt]; omega
          have htt : vN x < 6 := by rw [vN_toInt]; omega
          obtain ⟨hm1, hm2⟩ := hmt (vN kx) hkk
          obtain ⟨hm3, hm4, -⟩ := hmr _ hm2
          refine lv_iload_n hx hb dX6_spoil_31 rfl (lv_at hl 3 rfl) ?_
          refine lv_if_lt (tgt := 57) hx hb dX6_spoil_32 (by decide) (fun c_32 => ?_) (fun c_32 => ?_)
          · have c_32 := (o_lt0 _).mp c_32
            refine lv_iconst (v := (nI 2)) hx hb dX6_spoil_57 (by decide) ?_
            refine lv_goto (tgt := 62) hx hb dX6_spoil_58 (by decide) ?_
            refine wr_put (cy := cy) (ad := ad) (ex := []) (ci := 5) (C := RX6) (T := TX6) (N := 27) (ty := .int) hx hb hts hin_RX6 tyX6 tyX6_ok nmX6 hown hE.1 hP hD hS 137 (show 137 < n by omega) ((g_137 cy ad) _) rfl 0 (by decide) hf63 (fun _ h9 => h9) rfl (by decide +kernel) rfl rfl (by simp) (((g_137 cy ad) _).trans (by simp [st_at])) dX6_spoil_62 (fun H locs hP hS => ?_)
            refine lv_aload_n hx hb dX6_spoil_65 rfl (lv_at hl 0 rfl) ?_
            refine va_get (D := D) (ci := 5) (v := .int ((st M 137 0 (nI 2)) 137 0)) (C := RX6) (T := TX6) (N := 27) hx hb hts hin_RX6 hown hE.1 hP 137 (wd_at (M := (st M 137 0 (nI 2))) (show 137 < n by omega) ((g_137 cy ad) _)) rfl 0 (by decide) hf63 (fun _ h9 => h9) rfl dX6_spoil_66 ?_
            refine wr_top (y := (nI 2)) (st_s _ _ _ _) ?_
            refine lv_if_ne (tgt := 90) hx hb dX6_spoil_69 (by decide) (fun c_69 => ?_) (fun c_69 => ?_)
            · have c_69 := mt (o_eq0 _).mpr c_69
              rw [nI_toInt (by omega)] at c_69
              exact W.vret hx hb hr (fun t ht hW => ⟨⟨(st M 137 0 (nI 2)), rfl, Or.inr (Or.inr ⟨by omega, by omega, by omega, rfl⟩), (by show va_P D vwCl _ t.heap; rw [ht]; exact hP)⟩, hS.F ht⟩) hS.2.2 dX6_spoil_90
            · exact absurd c_69 (by decide)
          · have c_32 := mt (o_lt0 _).mpr c_32
            refine lv_iload_n hx hb dX6_spoil_35 rfl (lv_at hl 3 rfl) ?_
            refine lv_iconst (v := (nI 2)) hx hb dX6_spoil_36 (by decide) ?_
            refine lv_aload_n hx hb dX6_spoil_37 rfl (lv_at hl 0 rfl) ?_
            refine va_get (D := D) (ci := 5) (v := .ref (ad 141)) (C := RX6) (T := TX6) (N := 27) hx hb hts hin_RX6 hown hE.1 hP 137 (wd_at (M := M) (show 137 < n by omega) ((g_137 cy ad) _)) rfl 6 (by decide) hf19 (fun _ h9 => h9) rfl dX6_spoil_38 ?_
            refine lv_aload_n hx hb dX6_spoil_41 rfl (lv_at hl 0 rfl) ?_
            refine va_get (D := D) (ci := 5) (v := .ref (ad 147)) (C := RX6) (T := TX6) (N := 27) hx hb hts hin_RX6 hown hE.1 hP 137 (wd_at (M := M) (show 137 < n by omega) ((g_137 cy ad) _)) rfl 13 (by decide) hf38 (fun _ h9 => h9) rfl dX6_spoil_42 ?_
            refine lv_bipush (v := (nI 8)) hx hb dX6_spoil_45 (by decide) ?_
            refine lv_iload_n hx hb dX6_spoil_47 rfl (lv_at hl 1 rfl) ?_
            refine lv_imul hx hb dX6_spoil_48 ?_
            refine wr_top (y := (nI (8 * vN x))) (xm_vN 8 (by omega)) ?_
            refine lv_iload_n hx hb dX6_spoil_49 rfl (lv_at hl 2 rfl) ?_
            refine lv_iadd hx hb dX6_spoil_50 ?_
            refine wr_top (y := (nI (8 * vN x + vN kx))) (xa_vN _ (by omega)) ?_
            refine wr_ald (cy := cy) (ad := ad) (ex := []) hx hb hE.1 hP 147 (show 147 < n by omega) ((g_147 cy ad) _) (8 * vN x + vN kx) rfl (by omega) (by decide) dX6_spoil_51 ?_
            refine wr_top (y := (nI (sr (vN kx)))) hm1 ?_
            refine wr_ald (cy := cy) (ad := ad) (ex := []) hx hb hE.1 hP 141 (show 141 < n by omega) ((g_141 cy ad) _) (sr (vN kx)) rfl (by omega) (by decide) dX6_spoil_52 ?_
            refine wr_top (y := (nI (rs (sr (vN kx))))) hm3 ?_
            refine lv_iadd hx hb dX6_spoil_53 ?_
            refine wr_top (y := (nI (2 + (rs (sr (vN kx)))))) (nI_add _ _) ?_
            refine lv_icmp_lt (tgt := 61) hx hb dX6_spoil_54 (by decide) (fun c_54 => ?_) (fun c_54 => ?_)
            · have c_54 := (o_gt (by omega) _).mp c_54
              refine lv_iconst (v := (nI 0)) hx hb dX6_spoil_61 (by decide) ?_
              refine wr_put (cy := cy) (ad := ad) (ex := []) (ci := 5) (C := RX6) (T := TX6) (N := 27) (ty := .int) hx hb hts hin_RX6 tyX6 tyX6_ok nmX6 hown hE.1 hP hD hS 137 (show 137 < n by omega) ((g_137 cy ad) _) rfl 0 (by decide) hf63 (fun _ h9 => h9) rfl (by decide +kernel) rfl rfl (by simp) (((g_137 cy ad) _).trans (by simp [st_at])) dX6_spoil_62 (fun H locs hP hS => ?_)
              refine lv_aload_n hx hb dX6_spoil_65 rfl (lv_at hl 0 rfl) ?_
              refine va_get (D := D) (ci := 5) (v := .int ((st M 137 0 (nI 0)) 137 0)) (C := RX6) (T := TX6) (N := 27) hx hb hts hin_RX6 hown hE.1 hP 137 (wd_at (M := (st M 137 0 (nI 0))) (show 137 < n by omega) ((g_137 cy ad) _)) rfl 0 (by decide) hf63 (fun _ h9 => h9) rfl dX6_spoil_66 ?_
              refine wr_top (y := (nI 0)) (st_s _ _ _ _) ?_
              refine lv_if_ne (tgt := 90) hx hb dX6_spoil_69 (by decide) (fun c_69 => ?_) (fun c_69 => ?_)
              · exact absurd c_69 (by decide)
              · have c_69 := (o_eq0 _).mp c_69
                rw [nI_toInt (by omega)] at c_69
                refine lv_aload_n hx hb dX6_spoil_72 rfl (lv_at hl 0 rfl) ?_
                refine va_get (D := D) (ci := 5) (v := .ref (ad 149)) (C := RX6) (T := TX6) (N := 27) hx hb hts hin_RX6 hown hE.1 hP 137 (wd_at (M := (st M 137 0 (nI 0))) (show 137 < n by omega) ((g_137 cy ad) _)) rfl 15 (by decide) hf44 (fun _ h9 => h9) rfl dX6_spoil_73 ?_
                refine lv_bipush (v := (nI 8)) hx hb dX6_spoil_76 (by decide) ?_
                refine lv_bipush (v := (nI 8)) hx hb dX6_spoil_78 (by decide) ?_
                refine lv_iload_n hx hb dX6_spoil_80 rfl (lv_at hl 1 rfl) ?_
                refine lv_imul hx hb dX6_spoil_81 ?_
                refine wr_top (y := (nI (8 * vN x))) (xm_vN 8 (by omega)) ?_
                refine lv_iload_n hx hb dX6_spoil_82 rfl (lv_at hl 2 rfl) ?_
                refine lv_iadd hx hb dX6_spoil_83 ?_
                refine wr_top (y := (nI (8 * vN x + vN kx))) (xa_vN _ (by omega)) ?_
                refine lv_imul hx hb dX6_spoil_84 ?_
                refine wr_top (y := (nI (8 * (8 * vN x + vN kx)))) (pk_mul _ _) ?_
                refine lv_iload_n hx hb dX6_spoil_85 rfl (lv_at hl 3 rfl) ?_
                refine lv_iadd hx hb dX6_spoil_86 ?_
                refine wr_top (y := (nI (8 * (8 * vN x + vN kx) + vN ix))) (xa_vN _ (by omega)) ?_
                refine lv_iload hx hb dX6_spoil_87 (lv_at hl 4 rfl) ?_
                refine wr_ast (cy := cy) (ad := ad) (ex := []) hx hb hE.1 hP hD hS 149 (show 149 < n by omega) (g_149 cy ad) (8 * (8 * vN x + vN kx) + vN ix) rfl (by rw [vN_toInt ix]; omega) (by decide) dX6_spoil_89 (fun H locs hP hS => ?_)
                exact W.vret hx hb hr (fun t ht hW => ⟨⟨(st (st M 137 0 (nI 0)) 149 (8 * (8 * vN x + vN kx) + vN ix) v), rfl, Or.inl ⟨by omega, by omega, by omega, by omega, by omega, by omega, rfl⟩, (by show va_P D vwCl _ t.heap; rw [ht]; exact hP)⟩, hS.F ht⟩) hS.2.2 dX6_spoil_90
            · have c_54 := mt (o_gt (by omega) _).mpr c_54
              refine lv_iconst (v := (nI 2)) hx hb dX6_spoil_57 (by decide) ?_
              refine lv_goto (tgt := 62) hx hb dX6_spoil_58 (by decide) ?_
              refine wr_put (cy := cy) (ad := ad) (ex := []) (ci := 5) (C := RX6) (T := TX6) (N := 27) (ty := .int) hx hb hts hin_RX6 tyX6 tyX6_ok nmX6 hown hE.1 hP hD hS 137 (show 137 < n by omega) ((g_137 cy ad) _) rfl 0 (by decide) hf63 (fun _ h9 => h9) rfl (by decide +kernel) rfl rfl (by simp) (((g_137 cy ad) _).trans (by simp [st_at])) dX6_spoil_62 (fun H locs hP hS => ?_)
              refine lv_aload_n hx hb dX6_spoil_65 rfl (lv_at hl 0 rfl) ?_
              refine va_get (D := D) (ci := 5) (v := .int ((st M 137 0 (nI 2)) 137 0)) (C := RX6) (T := TX6) (N := 27) hx hb hts hin_RX6 hown hE.1 hP 137 (wd_at (M := (st M 137 0 (nI 2))) (show 137 < n by omega) ((g_137 cy ad) _)) rfl 0 (by decide) hf63 (fun _ h9 => h9) rfl dX6_spoil_66 ?_
              refine wr_top (y := (nI 2)) (st_s _ _ _ _) ?_
              refine lv_if_ne (tgt := 90) hx hb dX6_spoil_69 (by decide) (fun c_69 => ?_) (fun c_69 => ?_)
              · have c_69 := mt (o_eq0 _).mpr c_69
                rw [nI_toInt (by omega)] at c_69
                exact W.vret hx hb hr (fun t ht hW => ⟨⟨(st M 137 0 (nI 2)), rfl, Or.inr (Or.inr ⟨by omega, by omega, by omega, rfl⟩), (by show va_P D vwCl _ t.heap; rw [ht]; exact hP)⟩, hS.F ht⟩) hS.2.2 dX6_spoil_90
              · exact absurd c_69 (by decide)
        · have c_24 := mt (o_gt (by omega) _).mpr c_24
          refine lv_iconst (v := (nI 2)) hx hb dX6_spoil_27 (by decide) ?_
          refine lv_goto (tgt := 62) hx hb dX6_spoil_28 (by decide) ?_
          refine wr_put (cy := cy) (ad := ad) (ex := []) (ci := 5) (C := RX6) (T := TX6) (N := 27) (ty := .int) hx hb hts hin_RX6 tyX6 tyX6_ok nmX6 hown hE.1 hP hD hS 137 (show 137 < n by omega) ((g_137 cy ad) _) rfl 0 (by decide) hf63 (fun _ h9 => h9) rfl (by decide +kernel) rfl rfl (by simp) (((g_137 cy ad) _).trans (by simp [st_at])) dX6_spoil_62 (fun H locs hP hS => ?_)
          refine lv_aload_n hx hb dX6_spoil_65 rfl (lv_at hl 0 rfl) ?_
          refine va_get (D := D) (ci := 5) (v := .int ((st M 137 0 (nI 2)) 137 0)) (C := RX6) (T := TX6) (N := 27) hx hb hts hin_RX6 hown hE.1 hP 137 (wd_at (M := (st M 137 0 (nI 2))) (show 137 < n by omega) ((g_137 cy ad) _)) rfl 0 (by decide) hf63 (fun _ h9 => h9) rfl dX6_spoil_66 ?_
          refine wr_top (y := (nI 2)) (st_s _ _ _ _) ?_
          refine lv_if_ne (tgt := 90) hx hb dX6_spoil_69 (by decide) (fun c_69 => ?_) (fun c_69 => ?_)
          · have c_69 := mt (o_eq0 _).mpr c_69
            rw [nI_toInt (by omega)] at c_69
            exact W.vret hx hb hr (fun t ht hW => ⟨⟨(st M 137 0 (nI 2)), rfl, Or.inr (Or.inr ⟨by omega, by omega, by omega, rfl⟩), (by show va_P D vwCl _ t.heap; rw [ht]; exact hP)⟩, hS.F ht⟩) hS.2.2 dX6_spoil_90
          · exact absurd c_69 (by decide)
    · exact absurd c_6 (by decide)

set_option maxHeartbeats 4000000 in
set_option maxRecDepth 100000 in
/-- model member -/
theorem kX6_member (l : Launch) {D : va_G} {cy ad : Nat → Nat} {n : Nat} {M : Mm} {A : Nat → Prop} (hD : ∀ M, va_D A (wd cy ad n M ++ [])) (hn : 154 ≤ n) {x : Int32} {mc : Nat} (htb : tbP M) (hmc : M 137 3 = nI mc) (hmc12 : mc ≤ 12) : Met l yX6_member wsX6_member ({ frames := 1, cells := 0, slots := 0, locals := 21 }) (va_Pc [.ref (ad 137), .int x] (RW D cy (wd cy ad n M ++ []) A)) (va_Qi (S := Mm) (fun r u => (eltN (vN x) = true ∧ (∀ j, j < mc → M 140 j ≠ x) ∧ mc < 12 ∧ r = nI mc ∧ u = st (st (st M 137 0 (nI 0)) 140 mc x) 137 3 (nI (mc + 1))) ∨ (¬ (eltN (vN x) = true ∧ ∀ j, j < mc → M 140 j ≠ x) ∧ u = (st M 137 0 (nI 1))) ∨ (eltN (vN x) = true ∧ (∀ j, j < mc → M 140 j ≠ x) ∧ mc = 12 ∧ u = (st M 137 0 (nI 2)))) (fun u t => va_P D vwCl (wd cy ad n u ++ []) t.heap) A) 0 0 A := by
  refine Met.ofW (cc := cX6_member) (maxL := 4) (ret := (some .int)) (by decide +kernel) rfl ?_
  intro p e s m args below meth c s₁ B hml hv
  obtain ⟨rfl, hP, hE, hA⟩ := hv
  have hx := B.exec
  have hb := B.bytes
  have hr := B.returns
  have hts := atoms_spec (ws := wsX6_member) B.pre
  have hown : s.vm.findClass RX6 = some m.cls := findClass_of_methodNamed B.named
  have hlocks := B.notSynchronized
  have hf109 : (Cond.fieldLink RX6 109 "RingPetitionModel" "members" "I").before #[.ref (ad 137), .int x] s = true := hts _ (by decide +kernel)
  have hf16 : (Cond.fieldLink RX6 16 "RingPetitionModel" "keys" "[I").before #[.ref (ad 137), .int x] s = true := hts _ (by decide +kernel)
  have hf63 : (Cond.fieldLink RX6 63 "RingPetitionModel" "thrown" "I").before #[.ref (ad 137), .int x] s = true := hts _ (by decide +kernel)
  have hin_RX6 : ∀ w ∈ u_ws RX6 TX6 27, w ∈ wsX6_member := by decide +kernel
  have hS : va_S A s.heap s.heap [] := va_S.rf
  have hl := lv_entry ([.ref (ad 137), .int x]) (n := 4) (Nat.le_of_ble_eq_true rfl)
  rw [lg_entry_eq]
  generalize (lg_sl ([.ref (ad 137), .int x]) ++ List.replicate (4 - (lg_sl ([.ref (ad 137), .int x])).length) Slot.unset).toArray = ls at hl ⊢
  have hl : lv_has ls 4 [(0, .ref (ad 137)), (1, .int x)] := hl
  refine wcutR 13 (fun (hv : Int32) ls st9 => st9 = [.int hv] ∧ bP (¬ eltN (vN x) = true) hv ∧ lv_has ls 4 [(0, .ref (ad 137)), (1, .int x)]) (fun hv ls st9 h9 => ?_) (fun hcut => ?_)
  · obtain ⟨rfl, hv9, hl⟩ := h9
    refine lv_istore_n (lv' := [(2, .int hv), (0, .ref (ad 137)), (1, .int x)]) hx hb dX6_member_13 rfl hl (by decide) rfl (fun ls hl => ?_)
    refine lv_iconst (v := (nI 0)) hx hb dX6_member_14 (by decide) ?_
    refine lv_istore_n (lv' := [(3, .int (nI 0)), (2, .int hv), (0, .ref (ad 137)), (1, .int x)]) hx hb dX6_member_15 rfl hl (by decide) rfl (fun ls hl => ?_)
    refine wloopR (fun kq (xq : Nat × Int32) ls => match xq with | (i, hv) => kq = mc - i ∧ (i ≤ mc ∧ bP (¬ (eltN (vN x) = true ∧ ∀ j, j < i → M 140 j ≠ x)) hv) ∧ lv_has ls 4 [(3, .int (nI i)), (2, .int hv), (0, .ref (ad 137)), (1, .int x)]) (fun k16 x16 ls h16 ih16 => ?_) _ (0, hv) ls ⟨rfl, ⟨Nat.zero_le _, bP_iff ⟨fun h h9 => h h9.1, fun h h9 => h ⟨h9, fun j h8 => absurd h8 (Nat.not_lt_zero j)⟩⟩ hv9⟩, lv_sub hl [0, 1, 2, 3] rfl⟩
    obtain ⟨i, hv⟩ := x16
    obtain ⟨hk16, hI, hl⟩ := h16
    refine lv_iload_n hx hb dX6_member_16 rfl (lv_at hl 0 rfl) ?_
    refine lv_aload_n hx hb dX6_member_17 rfl (lv_at hl 2 rfl) ?_
    refine va_get (D := D) (ci := 5) (v := .int (M 137 3)) (C := RX6) (T := TX6) (N := 27) hx hb hts hin_RX6 hown hE.1 hP 137 (wd_at (M := M) (show 137 < n by omega) ((g_137 cy ad) _)) rfl 3 (by decide) hf109 (fun _ h9 => h9) rfl dX6_member_18 ?_
    refine wr_top (y := (nI mc)) hmc ?_
    refine lv_icmp_ge (tgt := 50) hx hb dX6_member_21 (by decide) (fun c_21 => ?_) (fun c_21 => ?_)
    · have c_21 := (nI_leI (by omega) (by omega)).mp c_21
      rcases hI.2 with ⟨hy_g, hv_g⟩ | ⟨hy_g, hv_g⟩
      · subst hv_g
        refine lv_aload_n hx hb dX6_member_50 rfl (lv_at hl 2 rfl) ?_
        refine lv_iload_n hx hb dX6_member_51 rfl (lv_at hl 1 rfl) ?_
        refine lv_if_eq (tgt := 59) hx hb dX6_member_52 (by decide) (fun c_52 => ?_) (fun c_52 => ?_)
        · exact absurd c_52 (by decide)
        · have c_52 := mt (o_eq0 _).mpr c_52
          refine lv_iconst (v := (nI 1)) hx hb dX6_member_55 (by decide) ?_
          refine lv_goto (tgt := 73) hx hb dX6_member_56 (by decide) ?_
          refine wr_put (cy := cy) (ad := ad) (ex := []) (ci := 5) (C := RX6) (T := TX6) (N := 27) (ty := .int) hx hb hts hin_RX6 tyX6 tyX6_ok nmX6 hown hE.1 hP hD hS 137 (show 137 < n by omega) ((g_137 cy ad) _) rfl 0 (by decide) hf63 (fun _ h9 => h9) rfl (by decide +kernel) rfl rfl (by simp) (((g_137 cy ad) _).trans (by simp [st_at])) dX6_member_73 (fun H locs hP hS => ?_)
          refine lv_aload_n hx hb dX6_member_76 rfl (lv_at hl 2 rfl) ?_
          refine va_get (D := D) (ci := 5) (v := .int ((st M 137 0 (nI 1)) 137 0)) (C := RX6) (T := TX6) (N := 27) hx hb hts hin_RX6 hown hE.1 hP 137 (wd_at (M := (st M 137 0 (nI 1))) (show 137 < n by omega) ((g_137 cy ad) _)) rfl 0 (by decide) hf63 (fun _ h9 => h9) rfl dX6_member_77 ?_
          refine wr_top (y := (nI 1)) (st_s _ _ _ _) ?_
          refine lv_if_eq (tgt := 85) hx hb dX6_member_80 (by decide) (fun c_80 => ?_) (fun c_80 => ?_)
          · exact absurd c_80 (by decide)
          · have c_80 := mt (o_eq0 _).mpr c_80
            rw [nI_toInt (by omega)] at c_80
            refine lv_iconst (v := (nI 0)) hx hb dX6_member_83 (by decide) ?_
            exact W.iret (v := (nI 0)) hx hb hr (fun t ht hW => ⟨⟨(nI 0), (st M 137 0 (nI 1)), rfl, Or.inr (Or.inl ⟨fun h => hy_g ⟨h.1, fun j hj => h.2 j (by omega)⟩, rfl⟩), (by show va_P D vwCl _ t.heap; rw [ht]; exact hP)⟩, hS.F ht⟩) hS.2.2 dX6_member_84
      · subst hv_g
        refine lv_aload_n hx hb dX6_member_50 rfl (lv_at hl 2 rfl) ?_
        refine lv_iload_n hx hb dX6_member_51 rfl (lv_at hl 1 rfl) ?_
        refine lv_if_eq (tgt := 59) hx hb dX6_member_52 (by decide) (fun c_52 => ?_) (fun c_52 => ?_)
        · have c_52 := (o_eq0 _).mp c_52
          refine lv_aload_n hx hb dX6_member_59 rfl (lv_at hl 2 rfl) ?_
          refine va_get (D := D) (ci := 5) (v := .int (M 137 3)) (C := RX6) (T := TX6) (N := 27) hx hb hts hin_RX6 hown hE.1 hP 137 (wd_at (M := M) (show 137 < n by omega) ((g_137 cy ad) _)) rfl 3 (by decide) hf109 (fun _ h9 => h9) rfl dX6_member_60 ?_
          refine wr_top (y := (nI mc)) hmc ?_
          refine lv_bipush (v := (nI 12)) hx hb dX6_member_63 (by decide) ?_
          refine lv_icmp_ne (tgt := 72) hx hb dX6_member_65 (by decide) (fun c_65 => ?_) (fun c_65 => ?_)
          · have c_65 := mt (nI_eq (by omega) (by omega)).mpr c_65
            refine lv_iconst (v := (nI 0)) hx hb dX6_member_72 (by decide) ?_
            refine wr_put (cy := cy) (ad := ad) (ex := []) (ci := 5) (C := RX6) (T := TX6) (N := 27) (ty := .int) hx hb hts hin_RX6 tyX6 tyX6_ok nmX6 hown hE.1 hP hD hS 137 (show 137 < n by omega) ((g_137 cy ad) _) rfl 0 (by decide) hf63 (fun _ h9 => h9) rfl (by decide +kernel) rfl rfl (by simp) (((g_137 cy ad) _).trans (by simp [st_at])) dX6_member_73 (fun H locs hP hS => ?_)
            refine lv_aload_n hx hb dX6_member_76 rfl (lv_at hl 2 rfl) ?_
            refine va_get (D := D) (ci := 5) (v := .int ((st M 137 0 (nI 0)) 137 0)) (C := RX6) (T := TX6) (N := 27) hx hb hts hin_RX6 hown hE.1 hP 137 (wd_at (M := (st M 137 0 (nI 0))) (show 137 < n by omega) ((g_137 cy ad) _)) rfl 0 (by decide) hf63 (fun _ h9 => h9) rfl dX6_member_77 ?_
            refine wr_top (y := (nI 0)) (st_s _ _ _ _) ?_
            refine lv_if_eq (tgt := 85) hx hb dX6_member_80 (by decide) (fun c_80 => ?_) (fun c_80 => ?_)
            · have c_80 := (o_eq0 _).mp c_80
              rw [nI_toInt (by omega)] at c_80
              refine lv_aload_n hx hb dX6_member_85 rfl (lv_at hl 2 rfl) ?_
              refine va_get (D := D) (ci := 5) (v := .ref (ad 140)) (C := RX6) (T := TX6) (N := 27) hx hb hts hin_RX6 hown hE.1 hP 137 (wd_at (M := (st M 137 0 (nI 0))) (show 137 < n by omega) ((g_137 cy ad) _)) rfl 4 (by decide) hf16 (fun _ h9 => h9) rfl dX6_member_86 ?_
              refine lv_aload_n hx hb dX6_member_89 rfl (lv_at hl 2 rfl) ?_
              refine va_get (D := D) (ci := 5) (v := .int ((st M 137 0 (nI 0)) 137 3)) (C := RX6) (T := TX6) (N := 27) hx hb hts hin_RX6 hown hE.1 hP 137 (wd_at (M := (st M 137 0 (nI 0))) (show 137 < n by omega) ((g_137 cy ad) _)) rfl 3 (by decide) hf109 (fun _ h9 => h9) rfl dX6_member_90 ?_
              refine wr_top (y := (M 137 3)) (st_c _ _ _ (by decide)) ?_
              refine wr_top (y := (nI mc)) hmc ?_
              refine lv_iload_n hx hb dX6_member_93 rfl (lv_at hl 3 rfl) ?_
              refine wr_ast (cy := cy) (ad := ad) (ex := []) hx hb hE.1 hP hD hS 140 (show 140 < n by omega) (g_140 cy ad) mc rfl (by omega) (by decide) dX6_member_94 (fun H locs hP hS => ?_)
              refine lv_aload_n hx hb dX6_member_95 rfl (lv_at hl 2 rfl) ?_
              refine lv_dup hx hb dX6_member_96 rfl ?_
              refine va_get (D := D) (ci := 5) (v := .int ((st (st M 137 0 (nI 0)) 140 mc x) 137 3)) (C := RX6) (T := TX6) (N := 27) hx hb hts hin_RX6 hown hE.1 hP 137 (wd_at (M := (st (st M 137 0 (nI 0)) 140 mc x)) (show 137 < n by omega) ((g_137 cy ad) _)) rfl 3 (by decide) hf109 (fun _ h9 => h9) rfl dX6_member_97 ?_
              refine wr_top (y := ((st M 137 0 (nI 0)) 137 3)) (by rw [st_r _ _ _ (by decide)]) ?_
              refine wr_top (y := (M 137 3)) (st_c _ _ _ (by decide)) ?_
              refine wr_top (y := (nI mc)) hmc ?_
              refine lv_iconst (v := (nI 1)) hx hb dX6_member_100 (by decide) ?_
              refine lv_iadd hx hb dX6_member_101 ?_
              refine wr_top (y := (nI (mc + 1))) (nI_add _ _) ?_
              refine wr_put (cy := cy) (ad := ad) (ex := []) (ci := 5) (C := RX6) (T := TX6) (N := 27) (ty := .int) hx hb hts hin_RX6 tyX6 tyX6_ok nmX6 hown hE.1 hP hD hS 137 (show 137 < n by omega) ((g_137 cy ad) _) rfl 3 (by decide) hf109 (fun _ h9 => h9) rfl (by decide +kernel) rfl rfl (by simp) (((g_137 cy ad) _).trans (by simp [st_at])) dX6_member_102 (fun H locs hP hS => ?_)
              refine lv_aload_n hx hb dX6_member_105 rfl (lv_at hl 2 rfl) ?_
              refine va_get (D := D) (ci := 5) (v := .int ((st (st (st M 137 0 (nI 0)) 140 mc x) 137 3 (nI (mc + 1))) 137 3)) (C := RX6) (T := TX6) (N := 27) hx hb hts hin_RX6 hown hE.1 hP 137 (wd_at (M := (st (st (st M 137 0 (nI 0)) 140 mc x) 137 3 (nI (mc + 1)))) (show 137 < n by omega) ((g_137 cy ad) _)) rfl 3 (by decide) hf109 (fun _ h9 => h9) rfl dX6_member_106 ?_
              refine wr_top (y := (nI (mc + 1))) (st_s _ _ _ _) ?_
              refine lv_iconst (v := (nI 1)) hx hb dX6_member_109 (by decide) ?_
              refine lv_isub hx hb dX6_member_110 ?_
              refine wr_top (y := (nI mc)) (nI_pred mc) ?_
              have hyy := Classical.not_not.mp hy_g
              exact W.iret (v := (nI mc)) hx hb hr (fun t ht hW => ⟨⟨(nI mc), (st (st (st M 137 0 (nI 0)) 140 mc x) 137 3 (nI (mc + 1))), rfl, Or.inl ⟨hyy.1, fun j hj => hyy.2 j (by omega), by omega, rfl, rfl⟩, (by show va_P D vwCl _ t.heap; rw [ht]; exact hP)⟩, hS.F ht⟩) hS.2.2 dX6_member_111
            · exact absurd c_80 (by decide)
          · have c_65 := (nI_eq (by omega) (by omega)).mp c_65
            refine lv_iconst (v := (nI 2)) hx hb dX6_member_68 (by decide) ?_
            refine lv_goto (tgt := 73) hx hb dX6_member_69 (by decide) ?_
            refine wr_put (cy := cy) (ad := ad) (ex := []) (ci := 5) (C := RX6) (T := TX6) (N := 27) (ty := .int) hx hb hts hin_RX6 tyX6 tyX6_ok nmX6 hown hE.1 hP hD hS 137 (show 137 < n by omega) ((g_137 cy ad) _) rfl 0 (by decide) hf63 (fun _ h9 => h9) rfl (by decide +kernel) rfl rfl (by simp) (((g_137 cy ad) _).trans (by simp [st_at])) dX6_member_73 (fun H locs hP hS => ?_)
            refine lv_aload_n hx hb dX6_member_76 rfl (lv_at hl 2 rfl) ?_
            refine va_get (D := D) (ci := 5) (v := .int ((st M 137 0 (nI 2)) 137 0)) (C := RX6) (T := TX6) (N := 27) hx hb hts hin_RX6 hown hE.1 hP 137 (wd_at (M := (st M 137 0 (nI 2))) (show 137 < n by omega) ((g_137 cy ad) _)) rfl 0 (by decide) hf63 (fun _ h9 => h9) rfl dX6_member_77 ?_
            refine wr_top (y := (nI 2)) (st_s _ _ _ _) ?_
            refine lv_if_eq (tgt := 85) hx hb dX6_member_80 (by decide) (fun c_80 => ?_) (fun c_80 => ?_)
            · exact absurd c_80 (by decide)
            · have c_80 := mt (o_eq0 _).mpr c_80
              rw [nI_toInt (by omega)] at c_80
              refine lv_iconst (v := (nI 0)) hx hb dX6_member_83 (by decide) ?_
              have hyy := Classical.not_not.mp hy_g
              exact W.iret (v := (nI 0)) hx hb hr (fun t ht hW => ⟨⟨(nI 0), (st M 137 0 (nI 2)), rfl, Or.inr (Or.inr ⟨hyy.1, fun j hj => hyy.2 j (by omega), by omega, rfl⟩), (by show va_P D vwCl _ t.heap; rw [ht]; exact hP)⟩, hS.F ht⟩) hS.2.2 dX6_member_84
        · exact absurd c_52 (by decide)
    · have c_21 := mt (nI_leI (by omega) (by omega)).mpr c_21
      rcases hI.2 with ⟨hy_f, hv_f⟩ | ⟨hy_f, hv_f⟩
      · subst hv_f
        refine lv_iload_n hx hb dX6_member_24 rfl (lv_at hl 1 rfl) ?_
        refine lv_if_ne (tgt := 38) hx hb dX6_member_25 (by decide) (fun c_25 => ?_) (fun c_25 => ?_)
        · have c_25 := mt (o_eq0 _).mpr c_25
          refine lv_iconst (v := (nI 1)) hx hb dX6_member_38 (by decide) ?_
          refine lv_goto (tgt := 43) hx hb dX6_member_39 (by decide) ?_
          refine lv_istore_n (lv' := [(2, .int (nI 1)), (3, .int (nI i)), (0, .ref (ad 137)), (1, .int x)]) hx hb dX6_member_43 rfl hl (by decide) rfl (fun ls hl => ?_)
          refine lv_iinc (v := (nI (i + 1))) (lv' := [(3, .int (nI (i + 1))), (2, .int (nI 1)), (0, .ref (ad 137)), (1, .int x)]) hx hb dX6_member_44 hl (k := 1) rfl (nI_1 _) (by decide) rfl (fun ls hl => ?_)
          refine lv_goto (tgt := 16) hx hb dX6_member_47 (by decide) ?_
          exact ih16 _ (i + 1, (nI 1)) _ (by omega) ⟨rfl, ⟨by omega, bP_1 (fun h => hy_f ⟨h.1, fun j hj => h.2 j (by omega)⟩)⟩, (lv_sub hl [0, 1, 2, 3] rfl)⟩
        · exact absurd c_25 (by decide)
      · subst hv_f
        refine lv_iload_n hx hb dX6_member_24 rfl (lv_at hl 1 rfl) ?_
        refine lv_if_ne (tgt := 38) hx hb dX6_member_25 (by decide) (fun c_25 => ?_) (fun c_25 => ?_)
        · exact absurd c_25 (by decide)
        · have c_25 := (o_eq0 _).mp c_25
          refine lv_aload_n hx hb dX6_member_28 rfl (lv_at hl 2 rfl) ?_
          refine va_get (D := D) (ci := 5) (v := .ref (ad 140)) (C := RX6) (T := TX6) (N := 27) hx hb hts hin_RX6 hown hE.1 hP 137 (wd_at (M := M) (show 137 < n by omega) ((g_137 cy ad) _)) rfl 4 (by decide) hf16 (fun _ h9 => h9) rfl dX6_member_29 ?_
          refine lv_iload_n hx hb dX6_member_32 rfl (lv_at hl 0 rfl) ?_
          refine wr_ald (cy := cy) (ad := ad) (ex := []) hx hb hE.1 hP 140 (show 140 < n by omega) ((g_140 cy ad) _) i rfl (by omega) (by decide) dX6_member_33 ?_
          refine lv_iload_n hx hb dX6_member_34 rfl (lv_at hl 3 rfl) ?_
          refine lv_icmp_ne (tgt := 42) hx hb dX6_member_35 (by decide) (fun c_35 => ?_) (fun c_35 => ?_)
          · refine lv_iconst (v := (nI 0)) hx hb dX6_member_42 (by decide) ?_
            refine lv_istore_n (lv' := [(2, .int (nI 0)), (3, .int (nI i)), (0, .ref (ad 137)), (1, .int x)]) hx hb dX6_member_43 rfl hl (by decide) rfl (fun ls hl => ?_)
            refine lv_iinc (v := (nI (i + 1))) (lv' := [(3, .int (nI (i + 1))), (2, .int (nI 0)), (0, .ref (ad 137)), (1, .int x)]) hx hb dX6_member_44 hl (k := 1) rfl (nI_1 _) (by decide) rfl (fun ls hl => ?_)
            refine lv_goto (tgt := 16) hx hb dX6_member_47 (by decide) ?_
            exact ih16 _ (i + 1, (nI 0)) _ (by omega) ⟨rfl, ⟨by omega, bP_0 (fun h => h ⟨(Classical.not_not.mp hy_f).1, fun j hj => by rcases Nat.lt_or_ge j i with h9 | h9 <;> first | exact (Classical.not_not.mp hy_f).2 j h9 | (rw [show j = i by omega]; exact c_35)⟩)⟩, (lv_sub hl [0, 1, 2, 3] rfl)⟩
          · refine lv_iconst (v := (nI 1)) hx hb dX6_member_38 (by decide) ?_
            refine lv_goto (tgt := 43) hx hb dX6_member_39 (by decide) ?_
            refine lv_istore_n (lv' := [(2, .int (nI 1)), (3, .int (nI i)), (0, .ref (ad 137)), (1, .int x)]) hx hb dX6_member_43 rfl hl (by decide) rfl (fun ls hl => ?_)
            refine lv_iinc (v := (nI (i + 1))) (lv' := [(3, .int (nI (i + 1))), (2, .int (nI 1)), (0, .ref (ad 137)), (1, .int x)]) hx hb dX6_member_44 hl (k := 1) rfl (nI_1 _) (by decide) rfl (fun ls hl => ?_)
            refine lv_goto (tgt := 16) hx hb dX6_member_47 (by decide) ?_
            exact ih16 _ (i + 1, (nI 1)) _ (by omega) ⟨rfl, ⟨by omega, bP_1 (fun h => h.2 i (by omega) c_35)⟩, (lv_sub hl [0, 1, 2, 3] rfl)⟩
  · refine lv_aload_n hx hb dX6_member_0 rfl (lv_at hl 0 rfl) ?_
    refine lv_iload_n hx hb dX6_member_1 rfl (lv_at hl 1 rfl) ?_
    refine vp_callSi (W.runV (As := [.int x]) (rest := []) ⟨hx, hb, hml, hown, hts⟩ (kX6_isKey l hn htb) (cwV 1 hts gX6_member_X6_isKey rfl rfl rfl (by decide +kernel) ⟨Nat.le_of_ble_eq_true rfl, Nat.le_of_ble_eq_true rfl⟩) (ro_pv (ci := 5) (q := (RX6, TX6, 27)) hE hP rfl (wd_at (M := M) (show 137 < n by omega) ((g_137 cy ad) _))) rfl rfl hl.1 rfl (lv_room (Nat.le_of_ble_eq_true rfl)) dX6_member_2 ⟨Nat.le_of_ble_eq_true rfl, Nat.le_of_ble_eq_true rfl⟩) (fun r_2 hr_2 => ?_)
    rcases hr_2 with ⟨hq_2, rfl⟩ | ⟨hq_2, rfl⟩
    · refine lv_if_ne (tgt := 12) hx hb dX6_member_5 (by decide) (fun c_5 => ?_) (fun c_5 => ?_)
      · have c_5 := mt (o_eq0 _).mpr c_5
        refine lv_iconst (v := (nI 0)) hx hb dX6_member_12 (by decide) ?_
        exact hcut _ ls _ ⟨rfl, bP_0 (fun h => h hq_2), lv_sub hl [0, 1] rfl⟩
      · exact absurd c_5 (by decide)
    · refine lv_if_ne (tgt := 12) hx hb dX6_member_5 (by decide) (fun c_5 => ?_) (fun c_5 => ?_)
      · exact absurd c_5 (by decide)
      · have c_5 := (o_eq0 _).mp c_5
        refine lv_iconst (v := (nI 1)) hx hb dX6_member_8 (by decide) ?_
        refine lv_goto (tgt := 13) hx hb dX6_member_9 (by decide) ?_
        exact hcut _ ls _ ⟨rfl, bP_1 hq_2, lv_sub hl [0, 1] rfl⟩

set_option maxHeartbeats 4000000 in
set_option maxRecDepth 100000 in
/-- model topic -/
theorem kX6_topic (l : Launch) {D : va_G} {cy ad : Nat → Nat} {n : Nat} {M : Mm} {A : Nat → Prop} (hD : ∀ M, va_D A (wd cy ad n M ++ [])) (hn : 154 ≤ n) {tc : Nat} (htc : M 137 8 = nI tc) (htc6 : tc ≤ 6) {x : Int32} (htb : tbP M) : Met l yX6_topic wsX6_topic ({ frames := 2, cells := 0, slots := 0, locals := 44 }) (va_Pc [.ref (ad 137), .int x] (RW D cy (wd cy ad n M ++ []) A)) (va_Qi (S := Mm) (fun r u => (tc < 6 ∧ r = nI tc ∧ mxP (st (st (st (st M 137 0 (nI 0)) 143 tc x) 144 tc (nI (tB x))) 137 8 (nI (tc + 1))) u) ∨ (tc = 6 ∧ u = (st M 137 0 (nI 1)))) (fun u t => va_P D vwCl (wd cy ad n u ++ []) t.heap) A) 0 0 A := by
  refine Met.ofW (cc := cX6_topic) (maxL := 2) (ret := (some .int)) (by decide +kernel) rfl ?_
  intro p e s m args below meth c s₁ B hml hv
  obtain ⟨rfl, hP, hE, hA⟩ := hv
  have hx := B.exec
  have hb := B.bytes
  have hr := B.returns
  have hts := atoms_spec (ws := wsX6_topic) B.pre
  have hown : s.vm.findClass RX6 = some m.cls := findClass_of_methodNamed B.named
  have hlocks := B.notSynchronized
  have hf115 : (Cond.fieldLink RX6 115 "RingPetitionModel" "topics" "I").before #[.ref (ad 137), .int x] s = true := hts _ (by decide +kernel)
  have hf25 : (Cond.fieldLink RX6 25 "RingPetitionModel" "values" "[I").before #[.ref (ad 137), .int x] s = true := hts _ (by decide +kernel)
  have hf28 : (Cond.fieldLink RX6 28 "RingPetitionModel" "bases" "[I").before #[.ref (ad 137), .int x] s = true := hts _ (by decide +kernel)
  have hf63 : (Cond.fieldLink RX6 63 "RingPetitionModel" "thrown" "I").before #[.ref (ad 137), .int x] s = true := hts _ (by decide +kernel)
  have hin_RX6 : ∀ w ∈ u_ws RX6 TX6 27, w ∈ wsX6_topic := by decide +kernel
  have hS : va_S A s.heap s.heap [] := va_S.rf
  have hl := lv_entry ([.ref (ad 137), .int x]) (n := 2) (Nat.le_of_ble_eq_true rfl)
  rw [lg_entry_eq]
  generalize (lg_sl ([.ref (ad 137), .int x]) ++ List.replicate (2 - (lg_sl ([.ref (ad 137), .int x])).length) Slot.unset).toArray = ls at hl ⊢
  have hl : lv_has ls 2 [(0, .ref (ad 137)), (1, .int x)] := hl
  refine lv_aload_n hx hb dX6_topic_0 rfl (lv_at hl 0 rfl) ?_
  refine lv_aload_n hx hb dX6_topic_1 rfl (lv_at hl 0 rfl) ?_
  refine va_get (D := D) (ci := 5) (v := .int (M 137 8)) (C := RX6) (T := TX6) (N := 27) hx hb hts hin_RX6 hown hE.1 hP 137 (wd_at (M := M) (show 137 < n by omega) ((g_137 cy ad) _)) rfl 8 (by decide) hf115 (fun _ h9 => h9) rfl dX6_topic_2 ?_
  refine wr_top (y := (nI tc)) htc ?_
  refine lv_bipush (v := (nI 6)) hx hb dX6_topic_5 (by decide) ?_
  refine lv_icmp_ne (tgt := 14) hx hb dX6_topic_7 (by decide) (fun c_7 => ?_) (fun c_7 => ?_)
  · have c_7 := mt (nI_eq (by omega) (by omega)).mpr c_7
    refine lv_iconst (v := (nI 0)) hx hb dX6_topic_14 (by decide) ?_
    refine wr_put (cy := cy) (ad := ad) (ex := []) (ci := 5) (C := RX6) (T := TX6) (N := 27) (ty := .int) hx hb hts hin_RX6 tyX6 tyX6_ok nmX6 hown hE.1 hP hD hS 137 (show 137 < n by omega) ((g_137 cy ad) _) rfl 0 (by decide) hf63 (fun _ h9 => h9) rfl (by decide +kernel) rfl rfl (by simp) (((g_137 cy ad) _).trans (by simp [st_at])) dX6_topic_15 (fun H locs hP hS => ?_)
    refine lv_aload_n hx hb dX6_topic_18 rfl (lv_at hl 0 rfl) ?_
    refine va_get (D := D) (ci := 5) (v := .int ((st M 137 0 (nI 0)) 137 0)) (C := RX6) (T := TX6) (N := 27) hx hb hts hin_RX6 hown hE.1 hP 137 (wd_at (M := (st M 137 0 (nI 0))) (show 137 < n by omega) ((g_137 cy ad) _)) rfl 0 (by decide) hf63 (fun _ h9 => h9) rfl dX6_topic_19 ?_
    refine wr_top (y := (nI 0)) (st_s _ _ _ _) ?_
    refine lv_if_eq (tgt := 27) hx hb dX6_topic_22 (by decide) (fun c_22 => ?_) (fun c_22 => ?_)
    · have c_22 := (o_eq0 _).mp c_22
      rw [nI_toInt (by omega)] at c_22
      refine lv_aload_n hx hb dX6_topic_27 rfl (lv_at hl 0 rfl) ?_
      refine va_get (D := D) (ci := 5) (v := .ref (ad 143)) (C := RX6) (T := TX6) (N := 27) hx hb hts hin_RX6 hown hE.1 hP 137 (wd_at (M := (st M 137 0 (nI 0))) (show 137 < n by omega) ((g_137 cy ad) _)) rfl 9 (by decide) hf25 (fun _ h9 => h9) rfl dX6_topic_28 ?_
      refine lv_aload_n hx hb dX6_topic_31 rfl (lv_at hl 0 rfl) ?_
      refine va_get (D := D) (ci := 5) (v := .int ((st M 137 0 (nI 0)) 137 8)) (C := RX6) (T := TX6) (N := 27) hx hb hts hin_RX6 hown hE.1 hP 137 (wd_at (M := (st M 137 0 (nI 0))) (show 137 < n by omega) ((g_137 cy ad) _)) rfl 8 (by decide) hf115 (fun _ h9 => h9) rfl dX6_topic_32 ?_
      refine wr_top (y := (M 137 8)) (st_c _ _ _ (by decide)) ?_
      refine wr_top (y := (nI tc)) htc ?_
      refine lv_iload_n hx hb dX6_topic_35 rfl (lv_at hl 1 rfl) ?_
      refine wr_ast (cy := cy) (ad := ad) (ex := []) hx hb hE.1 hP hD hS 143 (show 143 < n by omega) (g_143 cy ad) tc rfl (by omega) (by decide) dX6_topic_36 (fun H locs hP hS => ?_)
      refine lv_aload_n hx hb dX6_topic_37 rfl (lv_at hl 0 rfl) ?_
      refine va_get (D := D) (ci := 5) (v := .ref (ad 144)) (C := RX6) (T := TX6) (N := 27) hx hb hts hin_RX6 hown hE.1 hP 137 (wd_at (M := (st (st M 137 0 (nI 0)) 143 tc x)) (show 137 < n by omega) ((g_137 cy ad) _)) rfl 10 (by decide) hf28 (fun _ h9 => h9) rfl dX6_topic_38 ?_
      refine lv_aload_n hx hb dX6_topic_41 rfl (lv_at hl 0 rfl) ?_
      refine va_get (D := D) (ci := 5) (v := .int ((st (st M 137 0 (nI 0)) 143 tc x) 137 8)) (C := RX6) (T := TX6) (N := 27) hx hb hts hin_RX6 hown hE.1 hP 137 (wd_at (M := (st (st M 137 0 (nI 0)) 143 tc x)) (show 137 < n by omega) ((g_137 cy ad) _)) rfl 8 (by decide) hf115 (fun _ h9 => h9) rfl dX6_topic_42 ?_
      refine wr_top (y := ((st M 137 0 (nI 0)) 137 8)) (by rw [st_r _ _ _ (by decide)]) ?_
      refine wr_top (y := (M 137 8)) (st_c _ _ _ (by decide)) ?_
      refine wr_top (y := (nI tc)) htc ?_
      refine lv_aload_n hx hb dX6_topic_45 rfl (lv_at hl 0 rfl) ?_
      refine lv_iload_n hx hb dX6_topic_46 rfl (lv_at hl 1 rfl) ?_
      refine va_calli (va_runV (As := [.int x]) (rest := [.int (nI tc), .ref (ad 144)]) ⟨hx, hb, hml, hown, hts⟩ (kX6_baseOf l hD hn (M := (st (st M 137 0 (nI 0)) 143 tc x)) (tb_mx htb (by rw [st_r _ _ _ (by decide), st_r _ _ _ (by decide)]) (by rw [st_r _ _ _ (by decide), st_r _ _ _ (by decide)]))) (cwV 1 hts gX6_topic_X6_baseOf rfl rfl rfl (by decide +kernel) ⟨Nat.le_of_ble_eq_true rfl, Nat.le_of_ble_eq_true rfl⟩) (rw_pv (ci := 5) (q := (RX6, TX6, 27)) hE hP hS hA rfl (wd_at (M := (st (st M 137 0 (nI 0)) 143 tc x)) (show 137 < n by omega) ((g_137 cy ad) _))) rfl rfl hl.1 rfl (lv_room (Nat.le_of_ble_eq_true rfl)) dX6_topic_47 ⟨Nat.le_of_ble_eq_true rfl, Nat.le_of_ble_eq_true rfl⟩) hS (fun q _ h => h) (fun q h => h) (fun r_47 u_47 t H1 locs ht hvm hr_47 hB_47 hz1 hk1 hS => ?_)
      have hP : va_P D vwCl (wd cy ad n u_47 ++ []) H1 := by rw [← ht]; exact hB_47
      clear hB_47 ht hvm hz1 hk1
      generalize H1 = H at hP hS ⊢
      obtain ⟨rfl, hmx⟩ := hr_47
      refine wr_ast (cy := cy) (ad := ad) (ex := []) hx hb hE.1 hP hD hS 144 (show 144 < n by omega) (g_144 cy ad) tc rfl (by omega) (by decide) dX6_topic_50 (fun H locs hP hS => ?_)
      refine lv_aload_n hx hb dX6_topic_51 rfl (lv_at hl 0 rfl) ?_
      refine lv_dup hx hb dX6_topic_52 rfl ?_
      refine va_get (D := D) (ci := 5) (v := .int ((st u_47 144 tc (nI (tB x))) 137 8)) (C := RX6) (T := TX6) (N := 27) hx hb hts hin_RX6 hown hE.1 hP 137 (wd_at (M := (st u_47 144 tc (nI (tB x)))) (show 137 < n by omega) ((g_137 cy ad) _)) rfl 8 (by decide) hf115 (fun _ h9 => h9) rfl dX6_topic_53 ?_
      refine wr_top (y := (u_47 137 8)) (by rw [st_r _ _ _ (by decide)]) ?_
      refine wr_top (y := ((st (st M 137 0 (nI 0)) 143 tc x) 137 8)) (hmx.2 _ (by decide)) ?_
      refine wr_top (y := ((st M 137 0 (nI 0)) 137 8)) (by rw [st_r _ _ _ (by decide)]) ?_
      refine wr_top (y := (M 137 8)) (st_c _ _ _ (by decide)) ?_
      refine wr_top (y := (nI tc)) htc ?_
      refine lv_iconst (v := (nI 1)) hx hb dX6_topic_56 (by decide) ?_
      refine lv_iadd hx hb dX6_topic_57 ?_
      refine wr_top (y := (nI (tc + 1))) (nI_add _ _) ?_
      refine wr_put (cy := cy) (ad := ad) (ex := []) (ci := 5) (C := RX6) (T := TX6) (N := 27) (ty := .int) hx hb hts hin_RX6 tyX6 tyX6_ok nmX6 hown hE.1 hP hD hS 137 (show 137 < n by omega) ((g_137 cy ad) _) rfl 8 (by decide) hf115 (fun _ h9 => h9) rfl (by decide +kernel) rfl rfl (by simp) (((g_137 cy ad) _).trans (by simp [st_at])) dX6_topic_58 (fun H locs hP hS => ?_)
      refine lv_aload_n hx hb dX6_topic_61 rfl (lv_at hl 0 rfl) ?_
      refine va_get (D := D) (ci := 5) (v := .int ((st (st u_47 144 tc (nI (tB x))) 137 8 (nI (tc + 1))) 137 8)) (C := RX6) (T := TX6) (N := 27) hx hb hts hin_RX6 hown hE.1 hP 137 (wd_at (M := (st (st u_47 144 tc (nI (tB x))) 137 8 (nI (tc + 1)))) (show 137 < n by omega) ((g_137 cy ad) _)) rfl 8 (by decide) hf115 (fun _ h9 => h9) rfl dX6_topic_62 ?_
      refine wr_top (y := (nI (tc + 1))) (st_s _ _ _ _) ?_
      refine lv_iconst (v := (nI 1)) hx hb dX6_topic_65 (by decide) ?_
      refine lv_isub hx hb dX6_topic_66 ?_
      refine wr_top (y := (nI tc)) (nI_pred tc) ?_
      exact W.iret (v := (nI tc)) hx hb hr (fun t ht hW => ⟨⟨(nI tc), (st (st u_47 144 tc (nI (tB x))) 137 8 (nI (tc + 1))), rfl, Or.inl ⟨by omega, rfl, mx_cg _ _ _ (mx_cg _ _ _ hmx)⟩, (by show va_P D vwCl _ t.heap; rw [ht]; exact hP)⟩, hS.F ht⟩) hS.2.2 dX6_topic_67
    · exact absurd c_22 (by decide)
  · have c_7 := (nI_eq (by omega) (by omega)).mp c_7
    refine lv_iconst (v := (nI 1)) hx hb dX6_topic_10 (by decide) ?_
    refine lv_goto (tgt := 15) hx hb dX6_topic_11 (by decide) ?_
    refine wr_put (cy := cy) (ad := ad) (ex := []) (ci := 5) (C := RX6) (T := TX6) (N := 27) (ty := .int) hx hb hts hin_RX6 tyX6 tyX6_ok nmX6 hown hE.1 hP hD hS 137 (show 137 < n by omega) ((g_137 cy ad) _) rfl 0 (by decide) hf63 (fun _ h9 => h9) rfl (by decide +kernel) rfl rfl (by simp) (((g_137 cy ad) _).trans (by simp [st_at])) dX6_topic_15 (fun H locs hP hS => ?_)
    refine lv_aload_n hx hb dX6_topic_18 rfl (lv_at hl 0 rfl) ?_
    refine va_get (D := D) (ci := 5) (v := .int ((st M 137 0 (nI 1)) 137 0)) (C := RX6) (T := TX6) (N := 27) hx hb hts hin_RX6 hown hE.1 hP 137 (wd_at (M := (st M 137 0 (nI 1))) (show 137 < n by omega) ((g_137 cy ad) _)) rfl 0 (by decide) hf63 (fun _ h9 => h9) rfl dX6_topic_19 ?_
    refine wr_top (y := (nI 1)) (st_s _ _ _ _) ?_
    refine lv_if_eq (tgt := 27) hx hb dX6_topic_22 (by decide) (fun c_22 => ?_) (fun c_22 => ?_)
    · exact absurd c_22 (by decide)
    · have c_22 := mt (o_eq0 _).mpr c_22
      rw [nI_toInt (by omega)] at c_22
      refine lv_iconst (v := (nI 0)) hx hb dX6_topic_25 (by decide) ?_
      exact W.iret (v := (nI 0)) hx hb hr (fun t ht hW => ⟨⟨(nI 0), (st M 137 0 (nI 1)), rfl, Or.inr ⟨by omega, rfl⟩, (by show va_P D vwCl _ t.heap; rw [ht]; exact hP)⟩, hS.F ht⟩) hS.2.2 dX6_topic_26

set_option maxHeartbeats 4000000 in
set_option maxRecDepth 100000 in
/-- model ring -/
theorem kX6_ring (l : Launch) {D : va_G} {cy ad : Nat → Nat} {n : Nat} {M : Mm} {A : Nat → Prop} (hD : ∀ M, va_D A (wd cy ad n M ++ [])) (hn : 154 ≤ n) {x : Int32} {mc rc : Nat} (hmc : M 137 3 = nI mc) (hmc12 : mc ≤ 12) (hrc : M 137 5 = nI rc) (hrc8 : rc ≤ 8) : Met l yX6_ring wsX6_ring ({ frames := 0, cells := 0, slots := 0, locals := 0 }) (va_Pc [.ref (ad 137), .int x] (RW D cy (wd cy ad n M ++ []) A)) (va_Qi (S := Mm) (fun r u => ((2 ≤ (bcI x).toInt ∧ (bcI x).toInt ≤ 6 ∧ uS x (nI mc) = 0) ∧ rc < 8 ∧ r = nI rc ∧ ∃ N, rgQ rc x mc (st M 137 0 (nI 0)) N ∧ u = st N 137 5 (nI (rc + 1))) ∨ (¬ (2 ≤ (bcI x).toInt ∧ (bcI x).toInt ≤ 6 ∧ uS x (nI mc) = 0) ∧ u = (st M 137 0 (nI 1))) ∨ ((2 ≤ (bcI x).toInt ∧ (bcI x).toInt ≤ 6 ∧ uS x (nI mc) = 0) ∧ rc = 8 ∧ u = (st M 137 0 (nI 2)))) (fun u t => va_P D vwCl (wd cy ad n u ++ []) t.heap) A) 0 0 A := by
  refine Met.ofW (cc := cX6_ring) (maxL := 5) (ret := (some .int)) (by decide +kernel) rfl ?_
  intro p e s m args below meth c s₁ B hml hv
  obtain ⟨rfl, hP, hE, hA⟩ := hv
  have hx := B.exec
  have hb := B.bytes
  have hr := B.returns
  have hts := atoms_spec (ws := wsX6_ring) B.pre
  have hown : s.vm.findClass RX6 = some m.cls := findClass_of_methodNamed B.named
  have hlocks := B.notSynchronized
  have hf109 : (Cond.fieldLink RX6 109 "RingPetitionModel" "members" "I").before #[.ref (ad 137), .int x] s = true := hts _ (by decide +kernel)
  have hf112 : (Cond.fieldLink RX6 112 "RingPetitionModel" "rings" "I").before #[.ref (ad 137), .int x] s = true := hts _ (by decide +kernel)
  have hf16 : (Cond.fieldLink RX6 16 "RingPetitionModel" "keys" "[I").before #[.ref (ad 137), .int x] s = true := hts _ (by decide +kernel)
  have hf19 : (Cond.fieldLink RX6 19 "RingPetitionModel" "ringSize" "[I").before #[.ref (ad 137), .int x] s = true := hts _ (by decide +kernel)
  have hf22 : (Cond.fieldLink RX6 22 "RingPetitionModel" "ringKeys" "[I").before #[.ref (ad 137), .int x] s = true := hts _ (by decide +kernel)
  have hf63 : (Cond.fieldLink RX6 63 "RingPetitionModel" "thrown" "I").before #[.ref (ad 137), .int x] s = true := hts _ (by decide +kernel)
  have hin_RX6 : ∀ w ∈ u_ws RX6 TX6 27, w ∈ wsX6_ring := by decide +kernel
  have hS : va_S A s.heap s.heap [] := va_S.rf
  have hl := lv_entry ([.ref (ad 137), .int x]) (n := 5) (Nat.le_of_ble_eq_true rfl)
  rw [lg_entry_eq]
  generalize (lg_sl ([.ref (ad 137), .int x]) ++ List.replicate (5 - (lg_sl ([.ref (ad 137), .int x])).length) Slot.unset).toArray = ls at hl ⊢
  have hl : lv_has ls 5 [(0, .ref (ad 137)), (1, .int x)] := hl
  refine lv_iconst (v := (nI 0)) hx hb dX6_ring_0 (by decide) ?_
  refine lv_istore_n (lv' := [(2, .int (nI 0)), (0, .ref (ad 137)), (1, .int x)]) hx hb dX6_ring_1 rfl hl (by decide) rfl (fun ls hl => ?_)
  refine lv_iconst (v := (nI 0)) hx hb dX6_ring_2 (by decide) ?_
  refine lv_istore_n (lv' := [(3, .int (nI 0)), (2, .int (nI 0)), (0, .ref (ad 137)), (1, .int x)]) hx hb dX6_ring_3 rfl hl (by decide) rfl (fun ls hl => ?_)
  refine wloopR (fun kq (xq : Nat × Unit) ls => match xq with | (i, us) => kq = mc - i ∧ (i ≤ mc) ∧ lv_has ls 5 [(3, .int (nI i)), (2, .int (nI (chC x i))), (0, .ref (ad 137)), (1, .int x)]) (fun k4 x4 ls h4 ih4 => ?_) _ (0, ()) ls ⟨rfl, Nat.zero_le _, lv_sub hl [0, 1, 2, 3] rfl⟩
  obtain ⟨i, us⟩ := x4
  obtain ⟨hk4, hI, hl⟩ := h4
  refine lv_iload_n hx hb dX6_ring_4 rfl (lv_at hl 0 rfl) ?_
  refine lv_aload_n hx hb dX6_ring_5 rfl (lv_at hl 2 rfl) ?_
  refine va_get (D := D) (ci := 5) (v := .int (M 137 3)) (C := RX6) (T := TX6) (N := 27) hx hb hts hin_RX6 hown hE.1 hP 137 (wd_at (M := M) (show 137 < n by omega) ((g_137 cy ad) _)) rfl 3 (by decide) hf109 (fun _ h9 => h9) rfl dX6_ring_6 ?_
  refine wr_top (y := (nI mc)) hmc ?_
  refine lv_icmp_ge (tgt := 26) hx hb dX6_ring_9 (by decide) (fun c_9 => ?_) (fun c_9 => ?_)
  · have c_9 := (nI_leI (by omega) (by omega)).mp c_9
    have him : i = mc := by omega
    rw [him] at hl
    refine lv_iload_n hx hb dX6_ring_26 rfl (lv_at hl 3 rfl) ?_
    refine lv_aload_n hx hb dX6_ring_27 rfl (lv_at hl 2 rfl) ?_
    refine va_get (D := D) (ci := 5) (v := .int (M 137 3)) (C := RX6) (T := TX6) (N := 27) hx hb hts hin_RX6 hown hE.1 hP 137 (wd_at (M := M) (show 137 < n by omega) ((g_137 cy ad) _)) rfl 3 (by decide) hf109 (fun _ h9 => h9) rfl dX6_ring_28 ?_
    refine wr_top (y := (nI mc)) hmc ?_
    refine lv_ishr hx hb dX6_ring_31 ?_
    refine lv_if_eq (tgt := 39) hx hb dX6_ring_32 (by decide) (fun c_32 => ?_) (fun c_32 => ?_)
    · refine lv_iconst (v := (nI 0)) hx hb dX6_ring_39 (by decide) ?_
      have hou := (as_0 (by omega)).mp c_32
      have hbc := ch_ok hmc12 hou
      have hle := chC_le x mc
      have hbi : (bcI x).toInt = (chC x mc : Int) := by rw [hbc, nI_toInt (by omega)]
      refine lv_istore_n (lv' := [(3, .int (nI 0)), (2, .int (nI (chC x mc))), (0, .ref (ad 137)), (1, .int x)]) hx hb dX6_ring_40 rfl hl (by decide) rfl (fun ls hl => ?_)
      refine lv_aload_n hx hb dX6_ring_41 rfl (lv_at hl 2 rfl) ?_
      refine lv_iload_n hx hb dX6_ring_42 rfl (lv_at hl 0 rfl) ?_
      refine lv_if_ne (tgt := 57) hx hb dX6_ring_43 (by decide) (fun c_43 => ?_) (fun c_43 => ?_)
      · exact absurd c_43 (by decide)
      · have c_43 := (o_eq0 _).mp c_43
        rw [nI_toInt (by omega)] at c_43
        refine lv_iload_n hx hb dX6_ring_46 rfl (lv_at hl 1 rfl) ?_
        refine lv_iconst (v := (nI 2)) hx hb dX6_ring_47 (by decide) ?_
        refine lv_icmp_lt (tgt := 57) hx hb dX6_ring_48 (by decide) (fun c_48 => ?_) (fun c_48 => ?_)
        · have c_48 := (nI_ltI (by omega) (by omega)).mp c_48
          refine lv_iconst (v := (nI 1)) hx hb dX6_ring_57 (by decide) ?_
          refine lv_goto (tgt := 75) hx hb dX6_ring_58 (by decide) ?_
          refine wr_put (cy := cy) (ad := ad) (ex := []) (ci := 5) (C := RX6) (T := TX6) (N := 27) (ty := .int) hx hb hts hin_RX6 tyX6 tyX6_ok nmX6 hown hE.1 hP hD hS 137 (show 137 < n by omega) ((g_137 cy ad) _) rfl 0 (by decide) hf63 (fun _ h9 => h9) rfl (by decide +kernel) rfl rfl (by simp) (((g_137 cy ad) _).trans (by simp [st_at])) dX6_ring_75 (fun H locs hP hS => ?_)
          refine lv_aload_n hx hb dX6_ring_78 rfl (lv_at hl 2 rfl) ?_
          refine va_get (D := D) (ci := 5) (v := .int ((st M 137 0 (nI 1)) 137 0)) (C := RX6) (T := TX6) (N := 27) hx hb hts hin_RX6 hown hE.1 hP 137 (wd_at (M := (st M 137 0 (nI 1))) (show 137 < n by omega) ((g_137 cy ad) _)) rfl 0 (by decide) hf63 (fun _ h9 => h9) rfl dX6_ring_79 ?_
          refine wr_top (y := (nI 1)) (st_s _ _ _ _) ?_
          refine lv_if_eq (tgt := 87) hx hb dX6_ring_82 (by decide) (fun c_82 => ?_) (fun c_82 => ?_)
          · exact absurd c_82 (by decide)
          · have c_82 := mt (o_eq0 _).mpr c_82
            rw [nI_toInt (by omega)] at c_82
            refine lv_iconst (v := (nI 0)) hx hb dX6_ring_85 (by decide) ?_
            exact W.iret (v := (nI 0)) hx hb hr (fun t ht hW => ⟨⟨(nI 0), (st M 137 0 (nI 1)), rfl, Or.inr (Or.inl ⟨fun h => by have := h.1; have := h.2.1; omega, rfl⟩), (by show va_P D vwCl _ t.heap; rw [ht]; exact hP)⟩, hS.F ht⟩) hS.2.2 dX6_ring_86
        · have c_48 := mt (nI_ltI (by omega) (by omega)).mpr c_48
          refine lv_iload_n hx hb dX6_ring_51 rfl (lv_at hl 1 rfl) ?_
          refine lv_bipush (v := (nI 6)) hx hb dX6_ring_52 (by decide) ?_
          refine lv_icmp_le (tgt := 61) hx hb dX6_ring_54 (by decide) (fun c_54 => ?_) (fun c_54 => ?_)
          · have c_54 := (nI_leI (by omega) (by omega)).mp c_54
            refine lv_aload_n hx hb dX6_ring_61 rfl (lv_at hl 2 rfl) ?_
            refine va_get (D := D) (ci := 5) (v := .int (M 137 5)) (C := RX6) (T := TX6) (N := 27) hx hb hts hin_RX6 hown hE.1 hP 137 (wd_at (M := M) (show 137 < n by omega) ((g_137 cy ad) _)) rfl 5 (by decide) hf112 (fun _ h9 => h9) rfl dX6_ring_62 ?_
            refine wr_top (y := (nI rc)) hrc ?_
            refine lv_bipush (v := (nI 8)) hx hb dX6_ring_65 (by decide) ?_
            refine lv_icmp_ne (tgt := 74) hx hb dX6_ring_67 (by decide) (fun c_67 => ?_) (fun c_67 => ?_)
            · have c_67 := mt (nI_eq (by omega) (by omega)).mpr c_67
              refine lv_iconst (v := (nI 0)) hx hb dX6_ring_74 (by decide) ?_
              refine wr_put (cy := cy) (ad := ad) (ex := []) (ci := 5) (C := RX6) (T := TX6) (N := 27) (ty := .int) hx hb hts hin_RX6 tyX6 tyX6_ok nmX6 hown hE.1 hP hD hS 137 (show 137 < n by omega) ((g_137 cy ad) _) rfl 0 (by decide) hf63 (fun _ h9 => h9) rfl (by decide +kernel) rfl rfl (by simp) (((g_137 cy ad) _).trans (by simp [st_at])) dX6_ring_75 (fun H locs hP hS => ?_)
              refine lv_aload_n hx hb dX6_ring_78 rfl (lv_at hl 2 rfl) ?_
              refine va_get (D := D) (ci := 5) (v := .int ((st M 137 0 (nI 0)) 137 0)) (C := RX6) (T := TX6) (N := 27) hx hb hts hin_RX6 hown hE.1 hP 137 (wd_at (M := (st M 137 0 (nI 0))) (show 137 < n by omega) ((g_137 cy ad) _)) rfl 0 (by decide) hf63 (fun _ h9 => h9) rfl dX6_ring_79 ?_
              refine wr_top (y := (nI 0)) (st_s _ _ _ _) ?_
              refine lv_if_eq (tgt := 87) hx hb dX6_ring_82 (by decide) (fun c_82 => ?_) (fun c_82 => ?_)
              · have c_82 := (o_eq0 _).mp c_82
                rw [nI_toInt (by omega)] at c_82
                refine lv_aload_n hx hb dX6_ring_87 rfl (lv_at hl 2 rfl) ?_
                refine va_get (D := D) (ci := 5) (v := .ref (ad 141)) (C := RX6) (T := TX6) (N := 27) hx hb hts hin_RX6 hown hE.1 hP 137 (wd_at (M := (st M 137 0 (nI 0))) (show 137 < n by omega) ((g_137 cy ad) _)) rfl 6 (by decide) hf19 (fun _ h9 => h9) rfl dX6_ring_88 ?_
                refine lv_aload_n hx hb dX6_ring_91 rfl (lv_at hl 2 rfl) ?_
                refine va_get (D := D) (ci := 5) (v := .int ((st M 137 0 (nI 0)) 137 5)) (C := RX6) (T := TX6) (N := 27) hx hb hts hin_RX6 hown hE.1 hP 137 (wd_at (M := (st M 137 0 (nI 0))) (show 137 < n by omega) ((g_137 cy ad) _)) rfl 5 (by decide) hf112 (fun _ h9 => h9) rfl dX6_ring_92 ?_
                refine wr_top (y := (M 137 5)) (st_c _ _ _ (by decide)) ?_
                refine wr_top (y := (nI rc)) hrc ?_
                refine lv_iconst (v := (nI 0)) hx hb dX6_ring_95 (by decide) ?_
                refine wr_ast (cy := cy) (ad := ad) (ex := []) hx hb hE.1 hP hD hS 141 (show 141 < n by omega) (g_141 cy ad) rc rfl (by omega) (by decide) dX6_ring_96 (fun H locs hP hS => ?_)
                refine lv_iconst (v := (nI 0)) hx hb dX6_ring_97 (by decide) ?_
                refine lv_istore (lv' := [(4, .int (nI 0)), (3, .int (nI 0)), (2, .int (nI (chC x mc))), (0, .ref (ad 137)), (1, .int x)]) hx hb dX6_ring_98 hl (by decide) rfl (fun ls hl => ?_)
                refine wloopW (fun kq (xq : Nat × Mm) H locs ls => match xq with | (i, Mk) => kq = mc - i ∧ (i ≤ mc ∧ rgQ rc x i (st M 137 0 (nI 0)) Mk) ∧ va_P D vwCl (wd cy ad n Mk ++ []) H ∧ va_S A s.heap H locs ∧ lv_has ls 5 [(4, .int (nI i)), (0, .ref (ad 137)), (1, .int x)]) (fun k100 x100 H locs ls h100 ih100 => ?_) _ (0, st (st M 137 0 (nI 0)) 141 rc (nI 0)) _ _ ls ⟨rfl, ⟨Nat.zero_le _, fun a h1 _ => st_r _ _ _ h1, st_s _ _ _ _, fun b hb9 => st_c _ _ _ hb9, fun b _ => by rw [st_r _ _ _ (by decide)], fun j h9 => absurd h9 (Nat.not_lt_zero j)⟩, hP, hS, lv_sub hl [0, 3, 4] rfl⟩
                obtain ⟨i, Mk⟩ := x100
                obtain ⟨hk100, hI2, hP, hS, hl⟩ := h100
                refine lv_iload hx hb dX6_ring_100 (lv_at hl 0 rfl) ?_
                refine lv_aload_n hx hb dX6_ring_102 rfl (lv_at hl 1 rfl) ?_
                refine va_get (D := D) (ci := 5) (v := .int (Mk 137 3)) (C := RX6) (T := TX6) (N := 27) hx hb hts hin_RX6 hown hE.1 hP 137 (wd_at (M := Mk) (show 137 < n by omega) ((g_137 cy ad) _)) rfl 3 (by decide) hf109 (fun _ h9 => h9) rfl dX6_ring_103 ?_
                refine wr_top (y := ((st M 137 0 (nI 0)) 137 3)) (by rw [hI2.2.1 _ (by decide) (by decide)]) ?_
                refine wr_top (y := (M 137 3)) (st_c _ _ _ (by decide)) ?_
                refine wr_top (y := (nI mc)) hmc ?_
                refine lv_icmp_ge (tgt := 167) hx hb dX6_ring_106 (by decide) (fun c_106 => ?_) (fun c_106 => ?_)
                · have c_106 := (nI_leI (by omega) (by omega)).mp c_106
                  refine lv_aload_n hx hb dX6_ring_167 rfl (lv_at hl 1 rfl) ?_
                  refine lv_dup hx hb dX6_ring_168 rfl ?_
                  refine va_get (D := D) (ci := 5) (v := .int (Mk 137 5)) (C := RX6) (T := TX6) (N := 27) hx hb hts hin_RX6 hown hE.1 hP 137 (wd_at (M := Mk) (show 137 < n by omega) ((g_137 cy ad) _)) rfl 5 (by decide) hf112 (fun _ h9 => h9) rfl dX6_ring_169 ?_
                  refine wr_top (y := ((st M 137 0 (nI 0)) 137 5)) (by rw [hI2.2.1 _ (by decide) (by decide)]) ?_
                  refine wr_top (y := (M 137 5)) (st_c _ _ _ (by decide)) ?_
                  refine wr_top (y := (nI rc)) hrc ?_
                  refine lv_iconst (v := (nI 1)) hx hb dX6_ring_172 (by decide) ?_
                  refine lv_iadd hx hb dX6_ring_173 ?_
                  refine wr_top (y := (nI (rc + 1))) (nI_add _ _) ?_
                  refine wr_put (cy := cy) (ad := ad) (ex := []) (ci := 5) (C := RX6) (T := TX6) (N := 27) (ty := .int) hx hb hts hin_RX6 tyX6 tyX6_ok nmX6 hown hE.1 hP hD hS 137 (show 137 < n by omega) ((g_137 cy ad) _) rfl 5 (by decide) hf112 (fun _ h9 => h9) rfl (by decide +kernel) rfl rfl (by simp) (((g_137 cy ad) _).trans (by simp [st_at])) dX6_ring_174 (fun H locs hP hS => ?_)
                  refine lv_aload_n hx hb dX6_ring_177 rfl (lv_at hl 1 rfl) ?_
                  refine va_get (D := D) (ci := 5) (v := .int ((st Mk 137 5 (nI (rc + 1))) 137 5)) (C := RX6) (T := TX6) (N := 27) hx hb hts hin_RX6 hown hE.1 hP 137 (wd_at (M := (st Mk 137 5 (nI (rc + 1)))) (show 137 < n by omega) ((g_137 cy ad) _)) rfl 5 (by decide) hf112 (fun _ h9 => h9) rfl dX6_ring_178 ?_
                  refine wr_top (y := (nI (rc + 1))) (st_s _ _ _ _) ?_
                  refine lv_iconst (v := (nI 1)) hx hb dX6_ring_181 (by decide) ?_
                  refine lv_isub hx hb dX6_ring_182 ?_
                  refine wr_top (y := (nI rc)) (nI_pred rc) ?_
                  exact W.iret (v := (nI rc)) hx hb hr (fun t ht hW => ⟨⟨(nI rc), (st Mk 137 5 (nI (rc + 1))), rfl, Or.inl ⟨⟨by omega, by omega, hou⟩, by omega, rfl, Mk, by rw [show mc = i by omega]; exact hI2.2, rfl⟩, (by show va_P D vwCl _ t.heap; rw [ht]; exact hP)⟩, hS.F ht⟩) hS.2.2 dX6_ring_183
                · have c_106 := mt (nI_leI (by omega) (by omega)).mpr c_106
                  refine lv_iload_n hx hb dX6_ring_109 rfl (lv_at hl 2 rfl) ?_
                  refine lv_iload hx hb dX6_ring_110 (lv_at hl 0 rfl) ?_
                  refine lv_ishr hx hb dX6_ring_112 ?_
                  refine lv_iconst (v := (nI 1)) hx hb dX6_ring_113 (by decide) ?_
                  refine lv_iand hx hb dX6_ring_114 ?_
                  refine lv_iconst (v := (nI 1)) hx hb dX6_ring_115 (by decide) ?_
                  refine lv_icmp_ne (tgt := 161) hx hb dX6_ring_116 (by decide) (fun c_116 => ?_) (fun c_116 => ?_)
                  · refine lv_iinc (v := (nI (i + 1))) (lv' := [(4, .int (nI (i + 1))), (0, .ref (ad 137)), (1, .int x)]) hx hb dX6_ring_161 hl (k := 0) rfl (nI_1 _) (by decide) rfl (fun ls hl => ?_)
                    refine lv_goto (tgt := 100) hx hb dX6_ring_164 (by decide) ?_
                    exact ih100 _ (i + 1, Mk) _ _ _ (by omega) ⟨rfl, ⟨by omega, rq_n (fun h9 => c_116 ((as_1 (by omega)).trans h9)) hI2.2⟩, hP, hS, (lv_sub hl [0, 1, 2] rfl)⟩
                  · refine lv_aload_n hx hb dX6_ring_119 rfl (lv_at hl 1 rfl) ?_
                    refine va_get (D := D) (ci := 5) (v := .ref (ad 142)) (C := RX6) (T := TX6) (N := 27) hx hb hts hin_RX6 hown hE.1 hP 137 (wd_at (M := Mk) (show 137 < n by omega) ((g_137 cy ad) _)) rfl 7 (by decide) hf22 (fun _ h9 => h9) rfl dX6_ring_120 ?_
                    refine lv_bipush (v := (nI 6)) hx hb dX6_ring_123 (by decide) ?_
                    refine lv_aload_n hx hb dX6_ring_125 rfl (lv_at hl 1 rfl) ?_
                    refine va_get (D := D) (ci := 5) (v := .int (Mk 137 5)) (C := RX6) (T := TX6) (N := 27) hx hb hts hin_RX6 hown hE.1 hP 137 (wd_at (M := Mk) (show 137 < n by omega) ((g_137 cy ad) _)) rfl 5 (by decide) hf112 (fun _ h9 => h9) rfl dX6_ring_126 ?_
                    refine wr_top (y := ((st M 137 0 (nI 0)) 137 5)) (by rw [hI2.2.1 _ (by decide) (by decide)]) ?_
                    refine wr_top (y := (M 137 5)) (st_c _ _ _ (by decide)) ?_
                    refine wr_top (y := (nI rc)) hrc ?_
                    refine lv_imul hx hb dX6_ring_129 ?_
                    refine wr_top (y := (nI (6 * rc))) (pk_mul _ _) ?_
                    refine lv_aload_n hx hb dX6_ring_130 rfl (lv_at hl 1 rfl) ?_
                    refine va_get (D := D) (ci := 5) (v := .ref (ad 141)) (C := RX6) (T := TX6) (N := 27) hx hb hts hin_RX6 hown hE.1 hP 137 (wd_at (M := Mk) (show 137 < n by omega) ((g_137 cy ad) _)) rfl 6 (by decide) hf19 (fun _ h9 => h9) rfl dX6_ring_131 ?_
                    refine lv_aload_n hx hb dX6_ring_134 rfl (lv_at hl 1 rfl) ?_
                    refine va_get (D := D) (ci := 5) (v := .int (Mk 137 5)) (C := RX6) (T := TX6) (N := 27) hx hb hts hin_RX6 hown hE.1 hP 137 (wd_at (M := Mk) (show 137 < n by omega) ((g_137 cy ad) _)) rfl 5 (by decide) hf112 (fun _ h9 => h9) rfl dX6_ring_135 ?_
                    refine wr_top (y := ((st M 137 0 (nI 0)) 137 5)) (by rw [hI2.2.1 _ (by decide) (by decide)]) ?_
                    refine wr_top (y := (M 137 5)) (st_c _ _ _ (by decide)) ?_
                    refine wr_top (y := (nI rc)) hrc ?_
                    refine wr_ald (cy := cy) (ad := ad) (ex := []) hx hb hE.1 hP 141 (show 141 < n by omega) ((g_141 cy ad) _) rc rfl (by omega) (by decide) dX6_ring_138 ?_
                    refine wr_top (y := (nI (chC x i))) hI2.2.2.1 ?_
                    refine lv_iadd hx hb dX6_ring_139 ?_
                    refine wr_top (y := (nI ((6 * rc) + (chC x i)))) (nI_add _ _) ?_
                    refine lv_aload_n hx hb dX6_ring_140 rfl (lv_at hl 1 rfl) ?_
                    refine va_get (D := D) (ci := 5) (v := .ref (ad 140)) (C := RX6) (T := TX6) (N := 27) hx hb hts hin_RX6 hown hE.1 hP 137 (wd_at (M := Mk) (show 137 < n by omega) ((g_137 cy ad) _)) rfl 4 (by decide) hf16 (fun _ h9 => h9) rfl dX6_ring_141 ?_
                    refine lv_iload hx hb dX6_ring_144 (lv_at hl 0 rfl) ?_
                    refine wr_ald (cy := cy) (ad := ad) (ex := []) hx hb hE.1 hP 140 (show 140 < n by omega) ((g_140 cy ad) _) i rfl (by omega) (by decide) dX6_ring_146 ?_
                    refine wr_top (y := ((st M 137 0 (nI 0)) 140 i)) (by rw [hI2.2.1 _ (by decide) (by decide)]) ?_
                    refine wr_top (y := (M 140 i)) (by rw [st_r _ _ _ (by decide)]) ?_
                    refine wr_ast (cy := cy) (ad := ad) (ex := []) hx hb hE.1 hP hD hS 142 (show 142 < n by omega) (g_142 cy ad) ((6 * rc) + (chC x i)) rfl (by have h1 := chC_mono x (show i + 1 ≤ mc by omega); rw [chC_1 (show chB x i from (as_1 (by omega)).symm.trans c_116)] at h1; omega) (by decide) dX6_ring_147 (fun H locs hP hS => ?_)
                    refine lv_aload_n hx hb dX6_ring_148 rfl (lv_at hl 1 rfl) ?_
                    refine va_get (D := D) (ci := 5) (v := .ref (ad 141)) (C := RX6) (T := TX6) (N := 27) hx hb hts hin_RX6 hown hE.1 hP 137 (wd_at (M := (st Mk 142 ((6 * rc) + (chC x i)) (M 140 i))) (show 137 < n by omega) ((g_137 cy ad) _)) rfl 6 (by decide) hf19 (fun _ h9 => h9) rfl dX6_ring_149 ?_
                    refine lv_aload_n hx hb dX6_ring_152 rfl (lv_at hl 1 rfl) ?_
                    refine va_get (D := D) (ci := 5) (v := .int ((st Mk 142 ((6 * rc) + (chC x i)) (M 140 i)) 137 5)) (C := RX6) (T := TX6) (N := 27) hx hb hts hin_RX6 hown hE.1 hP 137 (wd_at (M := (st Mk 142 ((6 * rc) + (chC x i)) (M 140 i))) (show 137 < n by omega) ((g_137 cy ad) _)) rfl 5 (by decide) hf112 (fun _ h9 => h9) rfl dX6_ring_153 ?_
                    refine wr_top (y := (Mk 137 5)) (by rw [st_r _ _ _ (by decide)]) ?_
                    refine wr_top (y := ((st M 137 0 (nI 0)) 137 5)) (by rw [hI2.2.1 _ (by decide) (by decide)]) ?_
                    refine wr_top (y := (M 137 5)) (st_c _ _ _ (by decide)) ?_
                    refine wr_top (y := (nI rc)) hrc ?_
                    refine lv_dup2_11 hx hb dX6_ring_156 rfl rfl ?_
                    refine wr_ald (cy := cy) (ad := ad) (ex := []) hx hb hE.1 hP 141 (show 141 < n by omega) ((g_141 cy ad) _) rc rfl (by omega) (by decide) dX6_ring_157 ?_
                    refine wr_top (y := (Mk 141 rc)) (by rw [st_r _ _ _ (by decide)]) ?_
                    refine wr_top (y := (nI (chC x i))) hI2.2.2.1 ?_
                    refine lv_iconst (v := (nI 1)) hx hb dX6_ring_158 (by decide) ?_
                    refine lv_iadd hx hb dX6_ring_159 ?_
                    refine wr_top (y := (nI ((chC x i) + 1))) (nI_add _ _) ?_
                    refine wr_ast (cy := cy) (ad := ad) (ex := []) hx hb hE.1 hP hD hS 141 (show 141 < n by omega) (g_141 cy ad) rc rfl (by omega) (by decide) dX6_ring_160 (fun H locs hP hS => ?_)
                    refine lv_iinc (v := (nI (i + 1))) (lv' := [(4, .int (nI (i + 1))), (0, .ref (ad 137)), (1, .int x)]) hx hb dX6_ring_161 hl (k := 0) rfl (nI_1 _) (by decide) rfl (fun ls hl => ?_)
                    refine lv_goto (tgt := 100) hx hb dX6_ring_164 (by decide) ?_
                    exact ih100 _ (i + 1, (st (st Mk 142 ((6 * rc) + (chC x i)) (M 140 i)) 141 rc (nI ((chC x i) + 1)))) _ _ _ (by omega) ⟨rfl, ⟨by omega, rq_y ((as_1 (by omega)).symm.trans c_116) rfl hI2.2⟩, hP, hS, (lv_sub hl [0, 1, 2] rfl)⟩
              · exact absurd c_82 (by decide)
            · have c_67 := (nI_eq (by omega) (by omega)).mp c_67
              refine lv_iconst (v := (nI 2)) hx hb dX6_ring_70 (by decide) ?_
              refine lv_goto (tgt := 75) hx hb dX6_ring_71 (by decide) ?_
              refine wr_put (cy := cy) (ad := ad) (ex := []) (ci := 5) (C := RX6) (T := TX6) (N := 27) (ty := .int) hx hb hts hin_RX6 tyX6 tyX6_ok nmX6 hown hE.1 hP hD hS 137 (show 137 < n by omega) ((g_137 cy ad) _) rfl 0 (by decide) hf63 (fun _ h9 => h9) rfl (by decide +kernel) rfl rfl (by simp) (((g_137 cy ad) _).trans (by simp [st_at])) dX6_ring_75 (fun H locs hP hS => ?_)
              refine lv_aload_n hx hb dX6_ring_78 rfl (lv_at hl 2 rfl) ?_
              refine va_get (D := D) (ci := 5) (v := .int ((st M 137 0 (nI 2)) 137 0)) (C := RX6) (T := TX6) (N := 27) hx hb hts hin_RX6 hown hE.1 hP 137 (wd_at (M := (st M 137 0 (nI 2))) (show 137 < n by omega) ((g_137 cy ad) _)) rfl 0 (by decide) hf63 (fun _ h9 => h9) rfl dX6_ring_79 ?_
              refine wr_top (y := (nI 2)) (st_s _ _ _ _) ?_
              refine lv_if_eq (tgt := 87) hx hb dX6_ring_82 (by decide) (fun c_82 => ?_) (fun c_82 => ?_)
              · exact absurd c_82 (by decide)
              · have c_82 := mt (o_eq0 _).mpr c_82
                rw [nI_toInt (by omega)] at c_82
                refine lv_iconst (v := (nI 0)) hx hb dX6_ring_85 (by decide) ?_
                exact W.iret (v := (nI 0)) hx hb hr (fun t ht hW => ⟨⟨(nI 0), (st M 137 0 (nI 2)), rfl, Or.inr (Or.inr ⟨⟨by omega, by omega, hou⟩, by omega, rfl⟩), (by show va_P D vwCl _ t.heap; rw [ht]; exact hP)⟩, hS.F ht⟩) hS.2.2 dX6_ring_86
          · have c_54 := mt (nI_leI (by omega) (by omega)).mpr c_54
            refine lv_iconst (v := (nI 1)) hx hb dX6_ring_57 (by decide) ?_
            refine lv_goto (tgt := 75) hx hb dX6_ring_58 (by decide) ?_
            refine wr_put (cy := cy) (ad := ad) (ex := []) (ci := 5) (C := RX6) (T := TX6) (N := 27) (ty := .int) hx hb hts hin_RX6 tyX6 tyX6_ok nmX6 hown hE.1 hP hD hS 137 (show 137 < n by omega) ((g_137 cy ad) _) rfl 0 (by decide) hf63 (fun _ h9 => h9) rfl (by decide +kernel) rfl rfl (by simp) (((g_137 cy ad) _).trans (by simp [st_at])) dX6_ring_75 (fun H locs hP hS => ?_)
            refine lv_aload_n hx hb dX6_ring_78 rfl (lv_at hl 2 rfl) ?_
            refine va_get (D := D) (ci := 5) (v := .int ((st M 137 0 (nI 1)) 137 0)) (C := RX6) (T := TX6) (N := 27) hx hb hts hin_RX6 hown hE.1 hP 137 (wd_at (M := (st M 137 0 (nI 1))) (show 137 < n by omega) ((g_137 cy ad) _)) rfl 0 (by decide) hf63 (fun _ h9 => h9) rfl dX6_ring_79 ?_
            refine wr_top (y := (nI 1)) (st_s _ _ _ _) ?_
            refine lv_if_eq (tgt := 87) hx hb dX6_ring_82 (by decide) (fun c_82 => ?_) (fun c_82 => ?_)
            · exact absurd c_82 (by decide)
            · have c_82 := mt (o_eq0 _).mpr c_82
              rw [nI_toInt (by omega)] at c_82
              refine lv_iconst (v := (nI 0)) hx hb dX6_ring_85 (by decide) ?_
              exact W.iret (v := (nI 0)) hx hb hr (fun t ht hW => ⟨⟨(nI 0), (st M 137 0 (nI 1)), rfl, Or.inr (Or.inl ⟨fun h => by have := h.1; have := h.2.1; omega, rfl⟩), (by show va_P D vwCl _ t.heap; rw [ht]; exact hP)⟩, hS.F ht⟩) hS.2.2 dX6_ring_86
    · refine lv_iconst (v := (nI 1)) hx hb dX6_ring_35 (by decide) ?_
      refine lv_goto (tgt := 40) hx hb dX6_ring_36 (by decide) ?_
      have hou : ¬ uS x (nI mc) = 0 := mt (as_0 (by omega)).mpr c_32
      refine lv_istore_n (lv' := [(3, .int (nI 1)), (2, .int (nI (chC x mc))), (0, .ref (ad 137)), (1, .int x)]) hx hb dX6_ring_40 rfl hl (by decide) rfl (fun ls hl => ?_)
      refine lv_aload_n hx hb dX6_ring_41 rfl (lv_at hl 2 rfl) ?_
      refine lv_iload_n hx hb dX6_ring_42 rfl (lv_at hl 0 rfl) ?_
      refine lv_if_ne (tgt := 57) hx hb dX6_ring_43 (by decide) (fun c_43 => ?_) (fun c_43 => ?_)
      · have c_43 := mt (o_eq0 _).mpr c_43
        rw [nI_toInt (by omega)] at c_43
        refine lv_iconst (v := (nI 1)) hx hb dX6_ring_57 (by decide) ?_
        refine lv_goto (tgt := 75) hx hb dX6_ring_58 (by decide) ?_
        refine wr_put (cy := cy) (ad := ad) (ex := []) (ci := 5) (C := RX6) (T := TX6) (N := 27) (ty := .int) hx hb hts hin_RX6 tyX6 tyX6_ok nmX6 hown hE.1 hP hD hS 137 (show 137 < n by omega) ((g_137 cy ad) _) rfl 0 (by decide) hf63 (fun _ h9 => h9) rfl (by decide +kernel) rfl rfl (by simp) (((g_137 cy ad) _).trans (by simp [st_at])) dX6_ring_75 (fun H locs hP hS => ?_)
        refine lv_aload_n hx hb dX6_ring_78 rfl (lv_at hl 2 rfl) ?_
        refine va_get (D := D) (ci := 5) (v := .int ((st M 137 0 (nI 1)) 137 0)) (C := RX6) (T := TX6) (N := 27) hx hb hts hin_RX6 hown hE.1 hP 137 (wd_at (M := (st M 137 0 (nI 1))) (show 137 < n by omega) ((g_137 cy ad) _)) rfl 0 (by decide) hf63 (fun _ h9 => h9) rfl dX6_ring_79 ?_
        refine wr_top (y := (nI 1)) (st_s _ _ _ _) ?_
        refine lv_if_eq (tgt := 87) hx hb dX6_ring_82 (by decide) (fun c_82 => ?_) (fun c_82 => ?_)
        · exact absurd c_82 (by decide)
        · have c_82 := mt (o_eq0 _).mpr c_82
          rw [nI_toInt (by omega)] at c_82
          refine lv_iconst (v := (nI 0)) hx hb dX6_ring_85 (by decide) ?_
          exact W.iret (v := (nI 0)) hx hb hr (fun t ht hW => ⟨⟨(nI 0), (st M 137 0 (nI 1)), rfl, Or.inr (Or.inl ⟨fun h => hou h.2.2, rfl⟩), (by show va_P D vwCl _ t.heap; rw [ht]; exact hP)⟩, hS.F ht⟩) hS.2.2 dX6_ring_86
      · exact absurd c_43 (by decide)
  · have c_9 := mt (nI_leI (by omega) (by omega)).mpr c_9
    refine lv_iload_n hx hb dX6_ring_12 rfl (lv_at hl 1 rfl) ?_
    refine lv_iload_n hx hb dX6_ring_13 rfl (lv_at hl 3 rfl) ?_
    refine lv_iload_n hx hb dX6_ring_14 rfl (lv_at hl 0 rfl) ?_
    refine lv_ishr hx hb dX6_ring_15 ?_
    refine lv_iconst (v := (nI 1)) hx hb dX6_ring_16 (by decide) ?_
    refine lv_iand hx hb dX6_ring_17 ?_
    refine lv_iadd hx hb dX6_ring_18 ?_
    refine wr_top (y := (nI (chC x (i + 1)))) (ch_add (by omega)) ?_
    refine lv_istore_n (lv' := [(2, .int (nI (chC x (i + 1)))), (3, .int (nI i)), (0, .ref (ad 137)), (1, .int x)]) hx hb dX6_ring_19 rfl hl (by decide) rfl (fun ls hl => ?_)
    refine lv_iinc (v := (nI (i + 1))) (lv' := [(3, .int (nI (i + 1))), (2, .int (nI (chC x (i + 1)))), (0, .ref (ad 137)), (1, .int x)]) hx hb dX6_ring_20 hl (k := 1) rfl (nI_1 _) (by decide) rfl (fun ls hl => ?_)
    refine lv_goto (tgt := 4) hx hb dX6_ring_23 (by decide) ?_
    exact ih4 _ (i + 1, ()) _ (by omega) ⟨rfl, (by omega), (lv_sub hl [0, 1, 2, 3] rfl)⟩
