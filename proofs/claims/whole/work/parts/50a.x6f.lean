def roM (M u : Mm) : Prop := (∀ a, a ≠ 137 → a ≠ 152 → a ≠ 153 → u a = M a) ∧ ∀ c, c ≠ 20 → c ≠ 24 → c ≠ 26 → u 137 c = M 137 c
theorem sc_ro {M N : Mm} (h : roM M N) : scM M N := ⟨h.1, fun c a1 _ _ a4 a5 => h.2 c a1 a4 a5⟩

set_option maxHeartbeats 4000000 in
set_option maxRecDepth 100000 in
/-- model readOne -/
theorem kX6_readOne (l : Launch) {D : va_G} {cy ad : Nat → Nat} {n : Nat} {M : Mm} {A : Nat → Prop} (hD : ∀ M, va_D A (wd cy ad n M ++ [])) (hn : 154 ≤ n) {a0 b0 bB : Nat} (hb0 : M 137 18 = nI b0) (hb1 : b0 ≤ 200) (ha0 : a0 ≤ 200) (htb : tbP M) (hbb : M 137 22 = nI bB) (hbe : eltN bB = true) : Met l yX6_readOne wsX6_readOne ({ frames := 4, cells := 0, slots := 0, locals := 90 }) (va_Pc [.ref (ad 137), .int (nI a0)] (RW D cy (wd cy ad n M ++ []) A)) (va_Qi (S := Mm) (fun r u => ((okS (M 151) b0 (M 137 23) bB a0 ∧ r = nI (a0 + 4 + 2 * pkN (M 151) a0) ∧ u 153 1 = M 151 (a0 + 2 + pkN (M 151) a0 + 1)) ∨ (¬ okS (M 151) b0 (M 137 23) bB a0 ∧ r = (-1))) ∧ roM M u) (fun u t => va_P D vwCl (wd cy ad n u ++ []) t.heap) A) 0 0 A := by
  refine Met.ofW (cc := cX6_readOne) (maxL := 5) (ret := (some .int)) (by decide +kernel) rfl ?_
  intro p e s m args below meth c s₁ B hml hv
  obtain ⟨rfl, hP, hE, hA⟩ := hv
  have hx := B.exec
  have hb := B.bytes
  have hr := B.returns
  have hts := atoms_spec (ws := wsX6_readOne) B.pre
  have hown : s.vm.findClass RX6 = some m.cls := findClass_of_methodNamed B.named
  have hlocks := B.notSynchronized
  have hf147 : (Cond.fieldLink RX6 147 "RingPetitionModel" "bundled" "I").before #[.ref (ad 137), .int (nI a0)] s = true := hts _ (by decide +kernel)
  have hf54 : (Cond.fieldLink RX6 54 "RingPetitionModel" "row" "[I").before #[.ref (ad 137), .int (nI a0)] s = true := hts _ (by decide +kernel)
  have hf57 : (Cond.fieldLink RX6 57 "RingPetitionModel" "y" "[I").before #[.ref (ad 137), .int (nI a0)] s = true := hts _ (by decide +kernel)
  have hf60 : (Cond.fieldLink RX6 60 "RingPetitionModel" "numbers" "[I").before #[.ref (ad 137), .int (nI a0)] s = true := hts _ (by decide +kernel)
  have hf78 : (Cond.fieldLink RX6 78 "RingPetitionModel" "n" "I").before #[.ref (ad 137), .int (nI a0)] s = true := hts _ (by decide +kernel)
  have hf84 : (Cond.fieldLink RX6 84 "RingPetitionModel" "motion" "I").before #[.ref (ad 137), .int (nI a0)] s = true := hts _ (by decide +kernel)
  have hin_RX6 : ∀ w ∈ u_ws RX6 TX6 27, w ∈ wsX6_readOne := by decide +kernel
  have hS : va_S A s.heap s.heap [] := va_S.rf
  have hl := lv_entry ([.ref (ad 137), .int (nI a0)]) (n := 5) (Nat.le_of_ble_eq_true rfl)
  rw [lg_entry_eq]
  generalize (lg_sl ([.ref (ad 137), .int (nI a0)]) ++ List.replicate (5 - (lg_sl ([.ref (ad 137), .int (nI a0)])).length) Slot.unset).toArray = ls at hl ⊢
  have hl : lv_has ls 5 [(0, .ref (ad 137)), (1, .int (nI a0))] := hl
  refine lv_iload_n hx hb dX6_readOne_0 rfl (lv_at hl 1 rfl) ?_
  refine lv_aload_n hx hb dX6_readOne_1 rfl (lv_at hl 0 rfl) ?_
  refine va_get (D := D) (ci := 5) (v := .int (M 137 18)) (C := RX6) (T := TX6) (N := 27) hx hb hts hin_RX6 hown hE.1 hP 137 (wd_at (M := M) (show 137 < n by omega) ((g_137 cy ad) _)) rfl 18 (by decide) hf147 (fun _ h9 => h9) rfl dX6_readOne_2 ?_
  refine wr_top (y := (nI b0)) hb0 ?_
  refine lv_icmp_ge (tgt := 48) hx hb dX6_readOne_5 (by decide) (fun c_5 => ?_) (fun c_5 => ?_)
  · have c_5 := (nI_leI (by omega) (by omega)).mp c_5
    refine lv_iconst (v := (-1)) hx hb dX6_readOne_48 (by decide) ?_
    exact W.iret (v := (-1)) hx hb hr (fun t ht hW => ⟨⟨(-1), M, rfl, ⟨Or.inr ⟨fun h => by have := h.1; have := h.2.1; have := h.2.2.1; have := h.2.2.2.1; omega, rfl⟩, ⟨fun _ _ _ _ => rfl, fun _ _ _ _ => rfl⟩⟩, (by show va_P D vwCl _ t.heap; rw [ht]; exact hP)⟩, hS.F ht⟩) hS.2.2 dX6_readOne_49
  · have c_5 := mt (nI_leI (by omega) (by omega)).mpr c_5
    refine lv_aload_n hx hb dX6_readOne_8 rfl (lv_at hl 0 rfl) ?_
    refine va_get (D := D) (ci := 5) (v := .ref (ad 151)) (C := RX6) (T := TX6) (N := 27) hx hb hts hin_RX6 hown hE.1 hP 137 (wd_at (M := M) (show 137 < n by omega) ((g_137 cy ad) _)) rfl 19 (by decide) hf54 (fun _ h9 => h9) rfl dX6_readOne_9 ?_
    refine lv_iload_n hx hb dX6_readOne_12 rfl (lv_at hl 1 rfl) ?_
    refine wr_ald (cy := cy) (ad := ad) (ex := []) hx hb hE.1 hP 151 (show 151 < n by omega) ((g_151 cy ad) _) a0 rfl (by omega) (by decide) dX6_readOne_13 ?_
    refine lv_iconst (v := (nI 2)) hx hb dX6_readOne_14 (by decide) ?_
    refine lv_icmp_lt (tgt := 48) hx hb dX6_readOne_15 (by decide) (fun c_15 => ?_) (fun c_15 => ?_)
    · have c_15 := (o_gt (by omega) _).mp c_15
      refine lv_iconst (v := (-1)) hx hb dX6_readOne_48 (by decide) ?_
      exact W.iret (v := (-1)) hx hb hr (fun t ht hW => ⟨⟨(-1), M, rfl, ⟨Or.inr ⟨fun h => by have := h.1; have := h.2.1; have := h.2.2.1; have := h.2.2.2.1; omega, rfl⟩, ⟨fun _ _ _ _ => rfl, fun _ _ _ _ => rfl⟩⟩, (by show va_P D vwCl _ t.heap; rw [ht]; exact hP)⟩, hS.F ht⟩) hS.2.2 dX6_readOne_49
    · have c_15 := mt (o_gt (by omega) _).mpr c_15
      refine lv_aload_n hx hb dX6_readOne_18 rfl (lv_at hl 0 rfl) ?_
      refine va_get (D := D) (ci := 5) (v := .ref (ad 151)) (C := RX6) (T := TX6) (N := 27) hx hb hts hin_RX6 hown hE.1 hP 137 (wd_at (M := M) (show 137 < n by omega) ((g_137 cy ad) _)) rfl 19 (by decide) hf54 (fun _ h9 => h9) rfl dX6_readOne_19 ?_
      refine lv_iload_n hx hb dX6_readOne_22 rfl (lv_at hl 1 rfl) ?_
      refine wr_ald (cy := cy) (ad := ad) (ex := []) hx hb hE.1 hP 151 (show 151 < n by omega) ((g_151 cy ad) _) a0 rfl (by omega) (by decide) dX6_readOne_23 ?_
      refine lv_bipush (v := (nI 6)) hx hb dX6_readOne_24 (by decide) ?_
      refine lv_icmp_gt (tgt := 48) hx hb dX6_readOne_26 (by decide) (fun c_26 => ?_) (fun c_26 => ?_)
      · have c_26 := (o_lt (by omega) _).mp c_26
        refine lv_iconst (v := (-1)) hx hb dX6_readOne_48 (by decide) ?_
        exact W.iret (v := (-1)) hx hb hr (fun t ht hW => ⟨⟨(-1), M, rfl, ⟨Or.inr ⟨fun h => by have := h.1; have := h.2.1; have := h.2.2.1; have := h.2.2.2.1; omega, rfl⟩, ⟨fun _ _ _ _ => rfl, fun _ _ _ _ => rfl⟩⟩, (by show va_P D vwCl _ t.heap; rw [ht]; exact hP)⟩, hS.F ht⟩) hS.2.2 dX6_readOne_49
      · have c_26 := mt (o_lt (by omega) _).mpr c_26
        have hz9 : ((pkN (M 151) a0 : Nat) : Int) = (M 151 a0).toInt := by show ((vN (M 151 a0) : Nat) : Int) = _; rw [vN_toInt]; omega
        refine lv_iload_n hx hb dX6_readOne_29 rfl (lv_at hl 1 rfl) ?_
        refine lv_iconst (v := (nI 4)) hx hb dX6_readOne_30 (by decide) ?_
        refine lv_iadd hx hb dX6_readOne_31 ?_
        refine wr_top (y := (nI (a0 + 4))) (nI_add _ _) ?_
        refine lv_iconst (v := (nI 2)) hx hb dX6_readOne_32 (by decide) ?_
        refine lv_aload_n hx hb dX6_readOne_33 rfl (lv_at hl 0 rfl) ?_
        refine va_get (D := D) (ci := 5) (v := .ref (ad 151)) (C := RX6) (T := TX6) (N := 27) hx hb hts hin_RX6 hown hE.1 hP 137 (wd_at (M := M) (show 137 < n by omega) ((g_137 cy ad) _)) rfl 19 (by decide) hf54 (fun _ h9 => h9) rfl dX6_readOne_34 ?_
        refine lv_iload_n hx hb dX6_readOne_37 rfl (lv_at hl 1 rfl) ?_
        refine wr_ald (cy := cy) (ad := ad) (ex := []) hx hb hE.1 hP 151 (show 151 < n by omega) ((g_151 cy ad) _) a0 rfl (by omega) (by decide) dX6_readOne_38 ?_
        refine lv_imul hx hb dX6_readOne_39 ?_
        refine wr_top (y := (nI (2 * pkN (M 151) a0))) (xm_vN 2 (by omega)) ?_
        refine lv_iadd hx hb dX6_readOne_40 ?_
        refine wr_top (y := (nI (a0 + 4 + 2 * pkN (M 151) a0))) (nI_add _ _) ?_
        refine lv_aload_n hx hb dX6_readOne_41 rfl (lv_at hl 0 rfl) ?_
        refine va_get (D := D) (ci := 5) (v := .int (M 137 18)) (C := RX6) (T := TX6) (N := 27) hx hb hts hin_RX6 hown hE.1 hP 137 (wd_at (M := M) (show 137 < n by omega) ((g_137 cy ad) _)) rfl 18 (by decide) hf147 (fun _ h9 => h9) rfl dX6_readOne_42 ?_
        refine wr_top (y := (nI b0)) hb0 ?_
        refine lv_icmp_le (tgt := 50) hx hb dX6_readOne_45 (by decide) (fun c_45 => ?_) (fun c_45 => ?_)
        · have c_45 := (nI_leI (by omega) (by omega)).mp c_45
          refine lv_aload_n hx hb dX6_readOne_50 rfl (lv_at hl 0 rfl) ?_
          refine lv_aload_n hx hb dX6_readOne_51 rfl (lv_at hl 0 rfl) ?_
          refine va_get (D := D) (ci := 5) (v := .ref (ad 151)) (C := RX6) (T := TX6) (N := 27) hx hb hts hin_RX6 hown hE.1 hP 137 (wd_at (M := M) (show 137 < n by omega) ((g_137 cy ad) _)) rfl 19 (by decide) hf54 (fun _ h9 => h9) rfl dX6_readOne_52 ?_
          refine lv_iload_n hx hb dX6_readOne_55 rfl (lv_at hl 1 rfl) ?_
          refine wr_ald (cy := cy) (ad := ad) (ex := []) hx hb hE.1 hP 151 (show 151 < n by omega) ((g_151 cy ad) _) a0 rfl (by omega) (by decide) dX6_readOne_56 ?_
          refine wr_top (y := (nI (pkN (M 151) a0))) (x_vN (by omega)) ?_
          refine wr_put (cy := cy) (ad := ad) (ex := []) (ci := 5) (C := RX6) (T := TX6) (N := 27) (ty := .int) hx hb hts hin_RX6 tyX6 tyX6_ok nmX6 hown hE.1 hP hD hS 137 (show 137 < n by omega) ((g_137 cy ad) _) rfl 20 (by decide) hf78 (fun _ h9 => h9) rfl (by decide +kernel) rfl rfl (by simp) (((g_137 cy ad) _).trans (by simp [st_at])) dX6_readOne_57 (fun H locs hP hS => ?_)
          refine lv_iconst (v := (nI 0)) hx hb dX6_readOne_60 (by decide) ?_
          refine lv_istore_n (lv' := [(2, .int (nI 0)), (0, .ref (ad 137)), (1, .int (nI a0))]) hx hb dX6_readOne_61 rfl hl (by decide) rfl (fun ls hl => ?_)
          refine wloopW (fun kq (xq : Nat × Mm) H locs ls => match xq with | (i, Mk) => kq = pkN (M 151) a0 - i ∧ (i ≤ pkN (M 151) a0 ∧ (∀ a, a ≠ 152 → Mk a = (st M 137 20 (nI (pkN (M 151) a0))) a) ∧ (∀ j, j < i → Mk 152 j = M 151 (a0 + 1 + j)) ∧ (∀ j, j < i → eltN (vN (M 151 (a0 + 1 + j))) = true ∧ ∀ q, q < j → M 151 (a0 + 1 + q) ≠ M 151 (a0 + 1 + j))) ∧ va_P D vwCl (wd cy ad n Mk ++ []) H ∧ va_S A s.heap H locs ∧ lv_has ls 5 [(2, .int (nI i)), (0, .ref (ad 137)), (1, .int (nI a0))]) (fun k62 x62 H locs ls h62 ih62 => ?_) _ (0, (st M 137 20 (nI (pkN (M 151) a0)))) _ _ ls ⟨rfl, ⟨Nat.zero_le _, fun _ _ => rfl, fun j h => absurd h (Nat.not_lt_zero j), fun j h => absurd h (Nat.not_lt_zero j)⟩, hP, hS, lv_sub hl [0, 1, 2] rfl⟩
          obtain ⟨i, Mk⟩ := x62
          obtain ⟨hk62, hI, hP, hS, hl⟩ := h62
          refine lv_iload_n hx hb dX6_readOne_62 rfl (lv_at hl 0 rfl) ?_
          refine lv_aload_n hx hb dX6_readOne_63 rfl (lv_at hl 1 rfl) ?_
          refine va_get (D := D) (ci := 5) (v := .int (Mk 137 20)) (C := RX6) (T := TX6) (N := 27) hx hb hts hin_RX6 hown hE.1 hP 137 (wd_at (M := Mk) (show 137 < n by omega) ((g_137 cy ad) _)) rfl 20 (by decide) hf78 (fun _ h9 => h9) rfl dX6_readOne_64 ?_
          refine wr_top (y := ((st M 137 20 (nI (pkN (M 151) a0))) 137 20)) (by rw [hI.2.1 _ (by decide)]) ?_
          refine wr_top (y := (nI (pkN (M 151) a0))) (st_s _ _ _ _) ?_
          refine lv_icmp_ge (tgt := 150) hx hb dX6_readOne_67 (by decide) (fun c_67 => ?_) (fun c_67 => ?_)
          · have c_67 := (nI_leI (by omega) (by omega)).mp c_67
            have hke : i = pkN (M 151) a0 := by omega
            refine lv_aload_n hx hb dX6_readOne_150 rfl (lv_at hl 1 rfl) ?_
            refine lv_aload_n hx hb dX6_readOne_151 rfl (lv_at hl 1 rfl) ?_
            refine va_get (D := D) (ci := 5) (v := .ref (ad 151)) (C := RX6) (T := TX6) (N := 27) hx hb hts hin_RX6 hown hE.1 hP 137 (wd_at (M := Mk) (show 137 < n by omega) ((g_137 cy ad) _)) rfl 19 (by decide) hf54 (fun _ h9 => h9) rfl dX6_readOne_152 ?_
            refine lv_iload_n hx hb dX6_readOne_155 rfl (lv_at hl 2 rfl) ?_
            refine lv_iconst (v := (nI 1)) hx hb dX6_readOne_156 (by decide) ?_
            refine lv_iadd hx hb dX6_readOne_157 ?_
            refine wr_top (y := (nI (a0 + 1))) (nI_add _ _) ?_
            refine lv_aload_n hx hb dX6_readOne_158 rfl (lv_at hl 1 rfl) ?_
            refine va_get (D := D) (ci := 5) (v := .int (Mk 137 20)) (C := RX6) (T := TX6) (N := 27) hx hb hts hin_RX6 hown hE.1 hP 137 (wd_at (M := Mk) (show 137 < n by omega) ((g_137 cy ad) _)) rfl 20 (by decide) hf78 (fun _ h9 => h9) rfl dX6_readOne_159 ?_
            refine wr_top (y := ((st M 137 20 (nI (pkN (M 151) a0))) 137 20)) (by rw [hI.2.1 _ (by decide)]) ?_
            refine wr_top (y := (nI (pkN (M 151) a0))) (st_s _ _ _ _) ?_
            refine lv_iadd hx hb dX6_readOne_162 ?_
            refine wr_top (y := (nI (a0 + 1 + pkN (M 151) a0))) (nI_add _ _) ?_
            refine wr_ald (cy := cy) (ad := ad) (ex := []) hx hb hE.1 hP 151 (show 151 < n by omega) ((g_151 cy ad) _) (a0 + 1 + pkN (M 151) a0) rfl (by omega) (by decide) dX6_readOne_163 ?_
            refine wr_top (y := ((st M 137 20 (nI (pkN (M 151) a0))) 151 (a0 + 1 + pkN (M 151) a0))) (by rw [hI.2.1 _ (by decide)]) ?_
            refine wr_top (y := (M 151 (a0 + 1 + pkN (M 151) a0))) (by rw [st_r _ _ _ (by decide)]) ?_
            refine wr_put (cy := cy) (ad := ad) (ex := []) (ci := 5) (C := RX6) (T := TX6) (N := 27) (ty := .int) hx hb hts hin_RX6 tyX6 tyX6_ok nmX6 hown hE.1 hP hD hS 137 (show 137 < n by omega) ((g_137 cy ad) _) rfl 24 (by decide) hf84 (fun _ h9 => h9) rfl (by decide +kernel) rfl rfl (by simp) (((g_137 cy ad) _).trans (by simp [st_at])) dX6_readOne_164 (fun H locs hP hS => ?_)
            refine lv_iconst (v := (nI 0)) hx hb dX6_readOne_167 (by decide) ?_
            refine lv_istore_n (lv' := [(2, .int (nI 0)), (0, .ref (ad 137)), (1, .int (nI a0))]) hx hb dX6_readOne_168 rfl hl (by decide) rfl (fun ls hl => ?_)
            refine wloopW (fun kq (xq : Nat × Mm) H locs ls => match xq with | (i2, Mo) => kq = 2 + pkN (M 151) a0 - i2 ∧ (i2 ≤ 2 + pkN (M 151) a0 ∧ (∀ a, a ≠ 153 → Mo a = (st Mk 137 24 (M 151 (a0 + 1 + pkN (M 151) a0))) a) ∧ ∀ j, j < i2 → Mo 153 j = M 151 (a0 + 2 + pkN (M 151) a0 + j)) ∧ va_P D vwCl (wd cy ad n Mo ++ []) H ∧ va_S A s.heap H locs ∧ lv_has ls 5 [(2, .int (nI i2)), (0, .ref (ad 137)), (1, .int (nI a0))]) (fun k169 x169 H locs ls h169 ih169 => ?_) _ (0, (st Mk 137 24 (M 151 (a0 + 1 + pkN (M 151) a0)))) _ _ ls ⟨rfl, ⟨Nat.zero_le _, fun _ _ => rfl, fun j h => absurd h (Nat.not_lt_zero j)⟩, hP, hS, lv_sub hl [0, 1, 2] rfl⟩
            obtain ⟨i2, Mo⟩ := x169
            obtain ⟨hk169, hK, hP, hS, hl⟩ := h169
            refine lv_iload_n hx hb dX6_readOne_169 rfl (lv_at hl 0 rfl) ?_
            refine lv_iconst (v := (nI 2)) hx hb dX6_readOne_170 (by decide) ?_
            refine lv_aload_n hx hb dX6_readOne_171 rfl (lv_at hl 1 rfl) ?_
            refine va_get (D := D) (ci := 5) (v := .int (Mo 137 20)) (C := RX6) (T := TX6) (N := 27) hx hb hts hin_RX6 hown hE.1 hP 137 (wd_at (M := Mo) (show 137 < n by omega) ((g_137 cy ad) _)) rfl 20 (by decide) hf78 (fun _ h9 => h9) rfl dX6_readOne_172 ?_
            refine wr_top (y := ((st Mk 137 24 (M 151 (a0 + 1 + pkN (M 151) a0))) 137 20)) (by rw [hK.2.1 _ (by decide)]) ?_
            refine wr_top (y := (Mk 137 20)) (st_c _ _ _ (by decide)) ?_
            refine wr_top (y := ((st M 137 20 (nI (pkN (M 151) a0))) 137 20)) (by rw [hI.2.1 _ (by decide)]) ?_
            refine wr_top (y := (nI (pkN (M 151) a0))) (st_s _ _ _ _) ?_
            refine lv_iadd hx hb dX6_readOne_175 ?_
            refine wr_top (y := (nI (2 + (pkN (M 151) a0)))) (nI_add _ _) ?_
            refine lv_icmp_ge (tgt := 206) hx hb dX6_readOne_176 (by decide) (fun c_176 => ?_) (fun c_176 => ?_)
            · have c_176 := (nI_leI (by omega) (by omega)).mp c_176
              refine lv_aload_n hx hb dX6_readOne_206 rfl (lv_at hl 1 rfl) ?_
              have hkeys : (∀ j, j < pkN (M 151) a0 → eltN (vN (M 151 (a0 + 1 + j))) = true ∧ ∀ q, q < j → M 151 (a0 + 1 + q) ≠ M 151 (a0 + 1 + j)) := by have h9 := hI.2.2.2; rw [hke] at h9; exact h9
              have e137 : ∀ c, c ≠ 20 → c ≠ 24 → Mo 137 c = M 137 c := fun c a1 a2 => by rw [hK.2.1 137 (by decide), st_c _ _ _ a2, hI.2.1 137 (by decide), st_c _ _ _ a1]
              have eoth : ∀ a, a ≠ 137 → a ≠ 152 → a ≠ 153 → Mo a = M a := fun a a1 a2 a3 => by rw [hK.2.1 a a3, st_r _ _ _ a1, hI.2.1 a a2, st_r _ _ _ a1]
              have e20 : Mo 137 20 = nI (pkN (M 151) a0) := by rw [hK.2.1 137 (by decide), st_c _ _ _ (by decide), hI.2.1 137 (by decide), st_s]
              have e24 : Mo 137 24 = M 151 (a0 + 1 + pkN (M 151) a0) := by rw [hK.2.1 137 (by decide), st_s]
              have e152 : ∀ j, j < pkN (M 151) a0 → Mo 152 j = M 151 (a0 + 1 + j) := fun j hj => by rw [hK.2.1 152 (by decide), st_r _ _ _ (by decide)]; exact hI.2.2.1 j (by omega)
              have hg : gdM Mo (pkN (M 151) a0) bB ↔ gdP (pkN (M 151) a0) (fun j => M 151 (a0 + 1 + j)) (M 137 23) (M 151 (a0 + 1 + pkN (M 151) a0)) bB (fun j => M 151 (a0 + 2 + pkN (M 151) a0 + j)) := by unfold gdM; rw [e24, e137 23 (by decide) (by decide)]; exact gd_iff e152 (fun j hj => hK.2.2 j (by omega))
              refine va_calli (va_runV (As := []) (rest := []) ⟨hx, hb, hml, hown, hts⟩ (kX6_isGood l (M := Mo) hD hn (tb_sc htb eoth) e20 (by omega) (by rw [e137 22 (by decide) (by decide)]; exact hbb) hbe (fun j hj => by rw [e152 j hj]; exact (hkeys j hj).1)) (cwV 0 hts gX6_readOne_X6_isGood rfl rfl rfl (by decide +kernel) ⟨Nat.le_of_ble_eq_true rfl, Nat.le_of_ble_eq_true rfl⟩) (rw_pv (ci := 5) (q := (RX6, TX6, 27)) hE hP hS hA rfl (wd_at (M := Mo) (show 137 < n by omega) ((g_137 cy ad) _))) rfl rfl hl.1 rfl (lv_room (Nat.le_of_ble_eq_true rfl)) dX6_readOne_207 ⟨Nat.le_of_ble_eq_true rfl, Nat.le_of_ble_eq_true rfl⟩) hS (fun q _ h => h) (fun q h => h) (fun r_207 u_207 t H1 locs ht hvm hr_207 hB_207 hz1 hk1 hS => ?_)
              have hP : va_P D vwCl (wd cy ad n u_207 ++ []) H1 := by rw [← ht]; exact hB_207
              clear hB_207 ht hvm hz1 hk1
              generalize H1 = H at hP hS ⊢
              obtain ⟨hr_207, hmx⟩ := hr_207
              have hr_207 := bP_iff hg hr_207
              have hro : roM M u_207 := ⟨fun a a1 a2 a3 => (hmx.1 a a1).trans (eoth a a1 a2 a3), fun c a1 a2 a3 => (hmx.2 c a3).trans (e137 c a1 a2)⟩
              rcases hr_207 with ⟨hq_207, rfl⟩ | ⟨hq_207, rfl⟩
              · refine lv_if_eq (tgt := 226) hx hb dX6_readOne_210 (by decide) (fun c_210 => ?_) (fun c_210 => ?_)
                · exact absurd c_210 (by decide)
                · have c_210 := mt (o_eq0 _).mpr c_210
                  refine lv_iload_n hx hb dX6_readOne_213 rfl (lv_at hl 2 rfl) ?_
                  refine lv_iconst (v := (nI 4)) hx hb dX6_readOne_214 (by decide) ?_
                  refine lv_iadd hx hb dX6_readOne_215 ?_
                  refine wr_top (y := (nI (a0 + 4))) (nI_add _ _) ?_
                  refine lv_iconst (v := (nI 2)) hx hb dX6_readOne_216 (by decide) ?_
                  refine lv_aload_n hx hb dX6_readOne_217 rfl (lv_at hl 1 rfl) ?_
                  refine va_get (D := D) (ci := 5) (v := .int (u_207 137 20)) (C := RX6) (T := TX6) (N := 27) hx hb hts hin_RX6 hown hE.1 hP 137 (wd_at (M := u_207) (show 137 < n by omega) ((g_137 cy ad) _)) rfl 20 (by decide) hf78 (fun _ h9 => h9) rfl dX6_readOne_218 ?_
                  refine wr_top (y := (Mo 137 20)) (hmx.2 _ (by decide)) ?_
                  refine wr_top (y := ((st Mk 137 24 (M 151 (a0 + 1 + pkN (M 151) a0))) 137 20)) (by rw [hK.2.1 _ (by decide)]) ?_
                  refine wr_top (y := (Mk 137 20)) (st_c _ _ _ (by decide)) ?_
                  refine wr_top (y := ((st M 137 20 (nI (pkN (M 151) a0))) 137 20)) (by rw [hI.2.1 _ (by decide)]) ?_
                  refine wr_top (y := (nI (pkN (M 151) a0))) (st_s _ _ _ _) ?_
                  refine lv_imul hx hb dX6_readOne_221 ?_
                  refine wr_top (y := (nI (2 * pkN (M 151) a0))) (pk_mul _ _) ?_
                  refine lv_iadd hx hb dX6_readOne_222 ?_
                  refine wr_top (y := (nI (a0 + 4 + 2 * pkN (M 151) a0))) (nI_add _ _) ?_
                  refine lv_goto (tgt := 227) hx hb dX6_readOne_223 (by decide) ?_
                  exact W.iret (v := (nI (a0 + 4 + 2 * pkN (M 151) a0))) hx hb hr (fun t ht hW => ⟨⟨(nI (a0 + 4 + 2 * pkN (M 151) a0)), u_207, rfl, ⟨Or.inl ⟨⟨by omega, by omega, by omega, by omega, hkeys, hq_207⟩, rfl, (by rw [hmx.1 153 (by decide)]; exact hK.2.2 1 (by omega))⟩, hro⟩, (by show va_P D vwCl _ t.heap; rw [ht]; exact hP)⟩, hS.F ht⟩) hS.2.2 dX6_readOne_227
              · refine lv_if_eq (tgt := 226) hx hb dX6_readOne_210 (by decide) (fun c_210 => ?_) (fun c_210 => ?_)
                · have c_210 := (o_eq0 _).mp c_210
                  refine lv_iconst (v := (-1)) hx hb dX6_readOne_226 (by decide) ?_
                  exact W.iret (v := (-1)) hx hb hr (fun t ht hW => ⟨⟨(-1), u_207, rfl, ⟨Or.inr ⟨fun h => hq_207 h.2.2.2.2.2, rfl⟩, hro⟩, (by show va_P D vwCl _ t.heap; rw [ht]; exact hP)⟩, hS.F ht⟩) hS.2.2 dX6_readOne_227
                · exact absurd c_210 (by decide)
            · have c_176 := mt (nI_leI (by omega) (by omega)).mpr c_176
              refine lv_aload_n hx hb dX6_readOne_179 rfl (lv_at hl 1 rfl) ?_
              refine va_get (D := D) (ci := 5) (v := .ref (ad 153)) (C := RX6) (T := TX6) (N := 27) hx hb hts hin_RX6 hown hE.1 hP 137 (wd_at (M := Mo) (show 137 < n by omega) ((g_137 cy ad) _)) rfl 25 (by decide) hf60 (fun _ h9 => h9) rfl dX6_readOne_180 ?_
              refine lv_iload_n hx hb dX6_readOne_183 rfl (lv_at hl 0 rfl) ?_
              refine lv_aload_n hx hb dX6_readOne_184 rfl (lv_at hl 1 rfl) ?_
              refine va_get (D := D) (ci := 5) (v := .ref (ad 151)) (C := RX6) (T := TX6) (N := 27) hx hb hts hin_RX6 hown hE.1 hP 137 (wd_at (M := Mo) (show 137 < n by omega) ((g_137 cy ad) _)) rfl 19 (by decide) hf54 (fun _ h9 => h9) rfl dX6_readOne_185 ?_
              refine lv_iload_n hx hb dX6_readOne_188 rfl (lv_at hl 2 rfl) ?_
              refine lv_iconst (v := (nI 2)) hx hb dX6_readOne_189 (by decide) ?_
              refine lv_iadd hx hb dX6_readOne_190 ?_
              refine wr_top (y := (nI (a0 + 2))) (nI_add _ _) ?_
              refine lv_aload_n hx hb dX6_readOne_191 rfl (lv_at hl 1 rfl) ?_
              refine va_get (D := D) (ci := 5) (v := .int (Mo 137 20)) (C := RX6) (T := TX6) (N := 27) hx hb hts hin_RX6 hown hE.1 hP 137 (wd_at (M := Mo) (show 137 < n by omega) ((g_137 cy ad) _)) rfl 20 (by decide) hf78 (fun _ h9 => h9) rfl dX6_readOne_192 ?_
              refine wr_top (y := ((st Mk 137 24 (M 151 (a0 + 1 + pkN (M 151) a0))) 137 20)) (by rw [hK.2.1 _ (by decide)]) ?_
              refine wr_top (y := (Mk 137 20)) (st_c _ _ _ (by decide)) ?_
              refine wr_top (y := ((st M 137 20 (nI (pkN (M 151) a0))) 137 20)) (by rw [hI.2.1 _ (by decide)]) ?_
              refine wr_top (y := (nI (pkN (M 151) a0))) (st_s _ _ _ _) ?_
              refine lv_iadd hx hb dX6_readOne_195 ?_
              refine wr_top (y := (nI (a0 + 2 + pkN (M 151) a0))) (nI_add _ _) ?_
              refine lv_iload_n hx hb dX6_readOne_196 rfl (lv_at hl 0 rfl) ?_
              refine lv_iadd hx hb dX6_readOne_197 ?_
              refine wr_top (y := (nI (a0 + 2 + pkN (M 151) a0 + i2))) (nI_add _ _) ?_
              refine wr_ald (cy := cy) (ad := ad) (ex := []) hx hb hE.1 hP 151 (show 151 < n by omega) ((g_151 cy ad) _) (a0 + 2 + pkN (M 151) a0 + i2) rfl (by omega) (by decide) dX6_readOne_198 ?_
              refine wr_top (y := ((st Mk 137 24 (M 151 (a0 + 1 + pkN (M 151) a0))) 151 (a0 + 2 + pkN (M 151) a0 + i2))) (by rw [hK.2.1 _ (by decide)]) ?_
              refine wr_top (y := (Mk 151 (a0 + 2 + pkN (M 151) a0 + i2))) (by rw [st_r _ _ _ (by decide)]) ?_
              refine wr_top (y := ((st M 137 20 (nI (pkN (M 151) a0))) 151 (a0 + 2 + pkN (M 151) a0 + i2))) (by rw [hI.2.1 _ (by decide)]) ?_
              refine wr_top (y := (M 151 (a0 + 2 + pkN (M 151) a0 + i2))) (by rw [st_r _ _ _ (by decide)]) ?_
              refine wr_ast (cy := cy) (ad := ad) (ex := []) hx hb hE.1 hP hD hS 153 (show 153 < n by omega) (g_153 cy ad) i2 rfl (by omega) (by decide) dX6_readOne_199 (fun H locs hP hS => ?_)
              refine lv_iinc (v := (nI (i2 + 1))) (lv' := [(2, .int (nI (i2 + 1))), (0, .ref (ad 137)), (1, .int (nI a0))]) hx hb dX6_readOne_200 hl (k := 0) rfl (nI_1 _) (by decide) rfl (fun ls hl => ?_)
              refine lv_goto (tgt := 169) hx hb dX6_readOne_203 (by decide) ?_
              exact ih169 _ (i2 + 1, (st Mo 153 i2 (M 151 (a0 + 2 + pkN (M 151) a0 + i2)))) _ _ _ (by omega) ⟨rfl, ⟨by omega, fun a h => by rw [st_r _ _ _ h]; exact hK.2.1 a h, fun j hj => by rcases Nat.lt_or_ge j i2 with h | h <;> first | (rw [st_c _ _ _ (show j ≠ i2 by omega)]; exact hK.2.2 j h) | (rw [show j = i2 by omega, st_s])⟩, hP, hS, (lv_sub hl [0, 1, 2] rfl)⟩
          · have c_67 := mt (nI_leI (by omega) (by omega)).mpr c_67
            refine lv_aload_n hx hb dX6_readOne_70 rfl (lv_at hl 1 rfl) ?_
            refine va_get (D := D) (ci := 5) (v := .ref (ad 152)) (C := RX6) (T := TX6) (N := 27) hx hb hts hin_RX6 hown hE.1 hP 137 (wd_at (M := Mk) (show 137 < n by omega) ((g_137 cy ad) _)) rfl 21 (by decide) hf57 (fun _ h9 => h9) rfl dX6_readOne_71 ?_
            refine lv_iload_n hx hb dX6_readOne_74 rfl (lv_at hl 0 rfl) ?_
            refine lv_aload_n hx hb dX6_readOne_75 rfl (lv_at hl 1 rfl) ?_
            refine va_get (D := D) (ci := 5) (v := .ref (ad 151)) (C := RX6) (T := TX6) (N := 27) hx hb hts hin_RX6 hown hE.1 hP 137 (wd_at (M := Mk) (show 137 < n by omega) ((g_137 cy ad) _)) rfl 19 (by decide) hf54 (fun _ h9 => h9) rfl dX6_readOne_76 ?_
            refine lv_iload_n hx hb dX6_readOne_79 rfl (lv_at hl 2 rfl) ?_
            refine lv_iconst (v := (nI 1)) hx hb dX6_readOne_80 (by decide) ?_
            refine lv_iadd hx hb dX6_readOne_81 ?_
            refine wr_top (y := (nI (a0 + 1))) (nI_add _ _) ?_
            refine lv_iload_n hx hb dX6_readOne_82 rfl (lv_at hl 0 rfl) ?_
            refine lv_iadd hx hb dX6_readOne_83 ?_
            refine wr_top (y := (nI (a0 + 1 + i))) (nI_add _ _) ?_
            refine wr_ald (cy := cy) (ad := ad) (ex := []) hx hb hE.1 hP 151 (show 151 < n by omega) ((g_151 cy ad) _) (a0 + 1 + i) rfl (by omega) (by decide) dX6_readOne_84 ?_
            refine wr_top (y := ((st M 137 20 (nI (pkN (M 151) a0))) 151 (a0 + 1 + i))) (by rw [hI.2.1 _ (by decide)]) ?_
            refine wr_top (y := (M 151 (a0 + 1 + i))) (by rw [st_r _ _ _ (by decide)]) ?_
            refine wr_ast (cy := cy) (ad := ad) (ex := []) hx hb hE.1 hP hD hS 152 (show 152 < n by omega) (g_152 cy ad) i rfl (by omega) (by decide) dX6_readOne_85 (fun H locs hP hS => ?_)
            refine lv_aload_n hx hb dX6_readOne_86 rfl (lv_at hl 1 rfl) ?_
            refine lv_aload_n hx hb dX6_readOne_87 rfl (lv_at hl 1 rfl) ?_
            refine va_get (D := D) (ci := 5) (v := .ref (ad 152)) (C := RX6) (T := TX6) (N := 27) hx hb hts hin_RX6 hown hE.1 hP 137 (wd_at (M := (st Mk 152 i (M 151 (a0 + 1 + i)))) (show 137 < n by omega) ((g_137 cy ad) _)) rfl 21 (by decide) hf57 (fun _ h9 => h9) rfl dX6_readOne_88 ?_
            refine lv_iload_n hx hb dX6_readOne_91 rfl (lv_at hl 0 rfl) ?_
            refine wr_ald (cy := cy) (ad := ad) (ex := []) hx hb hE.1 hP 152 (show 152 < n by omega) ((g_152 cy ad) _) i rfl (by omega) (by decide) dX6_readOne_92 ?_
            refine wr_top (y := (M 151 (a0 + 1 + i))) (st_s _ _ _ _) ?_
            refine vp_callSi (W.runV (As := [.int (M 151 (a0 + 1 + i))]) (rest := []) ⟨hx, hb, hml, hown, hts⟩ (kX6_isKey l hn (tb_mx htb (by rw [st_r _ _ _ (by decide), hI.2.1 _ (by decide), st_r _ _ _ (by decide)]) (by rw [st_r _ _ _ (by decide), hI.2.1 _ (by decide), st_r _ _ _ (by decide)]))) (cwV 1 hts gX6_readOne_X6_isKey rfl rfl rfl (by decide +kernel) ⟨Nat.le_of_ble_eq_true rfl, Nat.le_of_ble_eq_true rfl⟩) (ro_pv (ci := 5) (q := (RX6, TX6, 27)) hE hP rfl (wd_at (M := (st Mk 152 i (M 151 (a0 + 1 + i)))) (show 137 < n by omega) ((g_137 cy ad) _))) rfl rfl hl.1 rfl (lv_room (Nat.le_of_ble_eq_true rfl)) dX6_readOne_93 ⟨Nat.le_of_ble_eq_true rfl, Nat.le_of_ble_eq_true rfl⟩) (fun r_93 hr_93 => ?_)
            refine lv_istore_n (lv' := [(3, .int r_93), (2, .int (nI i)), (0, .ref (ad 137)), (1, .int (nI a0))]) hx hb dX6_readOne_96 rfl hl (by decide) rfl (fun ls hl => ?_)
            refine lv_iconst (v := (nI 0)) hx hb dX6_readOne_97 (by decide) ?_
            refine lv_istore (lv' := [(4, .int (nI 0)), (3, .int r_93), (2, .int (nI i)), (0, .ref (ad 137)), (1, .int (nI a0))]) hx hb dX6_readOne_98 hl (by decide) rfl (fun ls hl => ?_)
            refine wloopR (fun kq (xq : Nat × Int32) ls => match xq with | (q, hv) => kq = i - q ∧ (q ≤ i ∧ bP (eltN (vN (M 151 (a0 + 1 + i))) = true ∧ ∀ q2, q2 < q → M 151 (a0 + 1 + q2) ≠ M 151 (a0 + 1 + i)) hv) ∧ lv_has ls 5 [(4, .int (nI q)), (3, .int hv), (2, .int (nI i)), (0, .ref (ad 137)), (1, .int (nI a0))]) (fun k100 x100 ls h100 ih100 => ?_) _ (0, r_93) ls ⟨rfl, ⟨Nat.zero_le _, bP_iff ⟨fun h => ⟨h, fun q2 h9 => absurd h9 (Nat.not_lt_zero q2)⟩, fun h => h.1⟩ hr_93⟩, lv_sub hl [0, 1, 2, 3, 4] rfl⟩
            obtain ⟨q, hv⟩ := x100
            obtain ⟨hk100, hJ, hl⟩ := h100
            refine lv_iload hx hb dX6_readOne_100 (lv_at hl 0 rfl) ?_
            refine lv_iload_n hx hb dX6_readOne_102 rfl (lv_at hl 2 rfl) ?_
            refine lv_icmp_ge (tgt := 138) hx hb dX6_readOne_103 (by decide) (fun c_103 => ?_) (fun c_103 => ?_)
            · have c_103 := (nI_leI (by omega) (by omega)).mp c_103
              rcases hJ.2 with ⟨hy_g, hv_g⟩ | ⟨hy_g, hv_g⟩
              · subst hv_g
                refine lv_iload_n hx hb dX6_readOne_138 rfl (lv_at hl 1 rfl) ?_
                refine lv_if_ne (tgt := 144) hx hb dX6_readOne_139 (by decide) (fun c_139 => ?_) (fun c_139 => ?_)
                · have c_139 := mt (o_eq0 _).mpr c_139
                  refine lv_iinc (v := (nI (i + 1))) (lv' := [(2, .int (nI (i + 1))), (4, .int (nI q)), (3, .int 1), (0, .ref (ad 137)), (1, .int (nI a0))]) hx hb dX6_readOne_144 hl (k := 2) rfl (nI_1 _) (by decide) rfl (fun ls hl => ?_)
                  refine lv_goto (tgt := 62) hx hb dX6_readOne_147 (by decide) ?_
                  exact ih62 _ (i + 1, (st Mk 152 i (M 151 (a0 + 1 + i)))) _ _ _ (by omega) ⟨rfl, ⟨by omega, fun a h => by rw [st_r _ _ _ h]; exact hI.2.1 a h, fun j hj => by rcases Nat.lt_or_ge j i with h | h <;> first | (rw [st_c _ _ _ (show j ≠ i by omega)]; exact hI.2.2.1 j h) | (rw [show j = i by omega, st_s]), fun j hj => by rcases Nat.lt_or_ge j i with h | h <;> first | exact hI.2.2.2 j h | (rw [show j = i by omega]; exact ⟨hy_g.1, fun q2 hq2 => hy_g.2 q2 (by omega)⟩)⟩, hP, hS, (lv_sub hl [0, 3, 4] rfl)⟩
                · exact absurd c_139 (by decide)
              · subst hv_g
                refine lv_iload_n hx hb dX6_readOne_138 rfl (lv_at hl 1 rfl) ?_
                refine lv_if_ne (tgt := 144) hx hb dX6_readOne_139 (by decide) (fun c_139 => ?_) (fun c_139 => ?_)
                · exact absurd c_139 (by decide)
                · have c_139 := (o_eq0 _).mp c_139
                  refine lv_iconst (v := (-1)) hx hb dX6_readOne_142 (by decide) ?_
                  exact W.iret (v := (-1)) hx hb hr (fun t ht hW => ⟨⟨(-1), (st Mk 152 i (M 151 (a0 + 1 + i))), rfl, ⟨Or.inr ⟨fun h => hy_g ⟨(h.2.2.2.2.1 i (by omega)).1, fun q2 hq2 => (h.2.2.2.2.1 i (by omega)).2 q2 (by omega)⟩, rfl⟩, ⟨fun a a1 a2 _ => by rw [st_r _ _ _ a2, hI.2.1 a a2, st_r _ _ _ a1], fun c a1 _ _ => by rw [st_r _ _ _ (by decide), hI.2.1 137 (by decide), st_c _ _ _ a1]⟩⟩, (by show va_P D vwCl _ t.heap; rw [ht]; exact hP)⟩, hS.F ht⟩) hS.2.2 dX6_readOne_143
            · have c_103 := mt (nI_leI (by omega) (by omega)).mpr c_103
              rcases hJ.2 with ⟨hy_f, hv_f⟩ | ⟨hy_f, hv_f⟩
              · subst hv_f
                refine lv_iload_n hx hb dX6_readOne_106 rfl (lv_at hl 1 rfl) ?_
                refine lv_if_eq (tgt := 130) hx hb dX6_readOne_107 (by decide) (fun c_107 => ?_) (fun c_107 => ?_)
                · exact absurd c_107 (by decide)
                · have c_107 := mt (o_eq0 _).mpr c_107
                  refine lv_aload_n hx hb dX6_readOne_110 rfl (lv_at hl 3 rfl) ?_
                  refine va_get (D := D) (ci := 5) (v := .ref (ad 152)) (C := RX6) (T := TX6) (N := 27) hx hb hts hin_RX6 hown hE.1 hP 137 (wd_at (M := (st Mk 152 i (M 151 (a0 + 1 + i)))) (show 137 < n by omega) ((g_137 cy ad) _)) rfl 21 (by decide) hf57 (fun _ h9 => h9) rfl dX6_readOne_111 ?_
                  refine lv_iload hx hb dX6_readOne_114 (lv_at hl 0 rfl) ?_
                  refine wr_ald (cy := cy) (ad := ad) (ex := []) hx hb hE.1 hP 152 (show 152 < n by omega) ((g_152 cy ad) _) q rfl (by omega) (by decide) dX6_readOne_116 ?_
                  refine wr_top (y := (M 151 (a0 + 1 + q))) (by rw [st_c _ _ _ (show q ≠ i by omega)]; exact hI.2.2.1 q (by omega)) ?_
                  refine lv_aload_n hx hb dX6_readOne_117 rfl (lv_at hl 3 rfl) ?_
                  refine va_get (D := D) (ci := 5) (v := .ref (ad 152)) (C := RX6) (T := TX6) (N := 27) hx hb hts hin_RX6 hown hE.1 hP 137 (wd_at (M := (st Mk 152 i (M 151 (a0 + 1 + i)))) (show 137 < n by omega) ((g_137 cy ad) _)) rfl 21 (by decide) hf57 (fun _ h9 => h9) rfl dX6_readOne_118 ?_
                  refine lv_iload_n hx hb dX6_readOne_121 rfl (lv_at hl 2 rfl) ?_
                  refine wr_ald (cy := cy) (ad := ad) (ex := []) hx hb hE.1 hP 152 (show 152 < n by omega) ((g_152 cy ad) _) i rfl (by omega) (by decide) dX6_readOne_122 ?_
                  refine wr_top (y := (M 151 (a0 + 1 + i))) (st_s _ _ _ _) ?_
                  refine lv_icmp_eq (tgt := 130) hx hb dX6_readOne_123 (by decide) (fun c_123 => ?_) (fun c_123 => ?_)
                  · refine lv_iconst (v := (nI 0)) hx hb dX6_readOne_130 (by decide) ?_
                    refine lv_istore_n (lv' := [(3, .int (nI 0)), (4, .int (nI q)), (2, .int (nI i)), (0, .ref (ad 137)), (1, .int (nI a0))]) hx hb dX6_readOne_131 rfl hl (by decide) rfl (fun ls hl => ?_)
                    refine lv_iinc (v := (nI (q + 1))) (lv' := [(4, .int (nI (q + 1))), (3, .int (nI 0)), (2, .int (nI i)), (0, .ref (ad 137)), (1, .int (nI a0))]) hx hb dX6_readOne_132 hl (k := 1) rfl (nI_1 _) (by decide) rfl (fun ls hl => ?_)
                    refine lv_goto (tgt := 100) hx hb dX6_readOne_135 (by decide) ?_
                    exact ih100 _ (q + 1, (nI 0)) _ (by omega) ⟨rfl, ⟨by omega, bP_0 (fun h => h.2 q (by omega) c_123)⟩, (lv_sub hl [0, 1, 2, 3, 4] rfl)⟩
                  · refine lv_iconst (v := (nI 1)) hx hb dX6_readOne_126 (by decide) ?_
                    refine lv_goto (tgt := 131) hx hb dX6_readOne_127 (by decide) ?_
                    refine lv_istore_n (lv' := [(3, .int (nI 1)), (4, .int (nI q)), (2, .int (nI i)), (0, .ref (ad 137)), (1, .int (nI a0))]) hx hb dX6_readOne_131 rfl hl (by decide) rfl (fun ls hl => ?_)
                    refine lv_iinc (v := (nI (q + 1))) (lv' := [(4, .int (nI (q + 1))), (3, .int (nI 1)), (2, .int (nI i)), (0, .ref (ad 137)), (1, .int (nI a0))]) hx hb dX6_readOne_132 hl (k := 1) rfl (nI_1 _) (by decide) rfl (fun ls hl => ?_)
                    refine lv_goto (tgt := 100) hx hb dX6_readOne_135 (by decide) ?_
                    exact ih100 _ (q + 1, (nI 1)) _ (by omega) ⟨rfl, ⟨by omega, bP_1 ⟨hy_f.1, fun q2 hq2 => by rcases Nat.lt_or_ge q2 q with h9 | h9 <;> first | exact hy_f.2 q2 h9 | (rw [show q2 = q by omega]; exact c_123)⟩⟩, (lv_sub hl [0, 1, 2, 3, 4] rfl)⟩
              · subst hv_f
                refine lv_iload_n hx hb dX6_readOne_106 rfl (lv_at hl 1 rfl) ?_
                refine lv_if_eq (tgt := 130) hx hb dX6_readOne_107 (by decide) (fun c_107 => ?_) (fun c_107 => ?_)
                · have c_107 := (o_eq0 _).mp c_107
                  refine lv_iconst (v := (nI 0)) hx hb dX6_readOne_130 (by decide) ?_
                  refine lv_istore_n (lv' := [(3, .int (nI 0)), (4, .int (nI q)), (2, .int (nI i)), (0, .ref (ad 137)), (1, .int (nI a0))]) hx hb dX6_readOne_131 rfl hl (by decide) rfl (fun ls hl => ?_)
                  refine lv_iinc (v := (nI (q + 1))) (lv' := [(4, .int (nI (q + 1))), (3, .int (nI 0)), (2, .int (nI i)), (0, .ref (ad 137)), (1, .int (nI a0))]) hx hb dX6_readOne_132 hl (k := 1) rfl (nI_1 _) (by decide) rfl (fun ls hl => ?_)
                  refine lv_goto (tgt := 100) hx hb dX6_readOne_135 (by decide) ?_
                  exact ih100 _ (q + 1, (nI 0)) _ (by omega) ⟨rfl, ⟨by omega, bP_0 (fun h => hy_f ⟨h.1, fun q2 hq2 => h.2 q2 (by omega)⟩)⟩, (lv_sub hl [0, 1, 2, 3, 4] rfl)⟩
                · exact absurd c_107 (by decide)
        · have c_45 := mt (nI_leI (by omega) (by omega)).mpr c_45
          refine lv_iconst (v := (-1)) hx hb dX6_readOne_48 (by decide) ?_
          exact W.iret (v := (-1)) hx hb hr (fun t ht hW => ⟨⟨(-1), M, rfl, ⟨Or.inr ⟨fun h => by have := h.1; have := h.2.1; have := h.2.2.1; have := h.2.2.2.1; omega, rfl⟩, ⟨fun _ _ _ _ => rfl, fun _ _ _ _ => rfl⟩⟩, (by show va_P D vwCl _ t.heap; rw [ht]; exact hP)⟩, hS.F ht⟩) hS.2.2 dX6_readOne_49
