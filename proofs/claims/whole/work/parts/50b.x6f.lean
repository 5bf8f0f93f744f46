set_option maxHeartbeats 4000000 in
set_option maxRecDepth 100000 in
/-- model check -/
theorem kX6_check (l : Launch) {D : va_G} {cy ad : Nat → Nat} {n : Nat} {M : Mm} {A : Nat → Prop} (hD : ∀ M, va_D A (wd cy ad n M ++ [])) (hn : 154 ≤ n) {b0 : Nat} (hb0 : M 137 18 = nI b0) (hb1 : b0 ≤ 200) (htb : tbP M) : Met l yX6_check wsX6_check ({ frames := 5, cells := 0, slots := 0, locals := 114 }) (va_Pc [.ref (ad 137)] (RW D cy (wd cy ad n M ++ []) A)) (va_Qi (S := Mm) (fun r u => (ckOK (M 151) b0 ∧ r = M 151 1 ∧ scM (st M 137 0 (nI 0)) u) ∨ (¬ ckOK (M 151) b0 ∧ scM (st M 137 0 (nI 1)) u)) (fun u t => va_P D vwCl (wd cy ad n u ++ []) t.heap) A) 0 0 A := by
  refine Met.ofW (cc := cX6_check) (maxL := 7) (ret := (some .int)) (by decide +kernel) rfl ?_
  intro p e s m args below meth c s₁ B hml hv
  obtain ⟨rfl, hP, hE, hA⟩ := hv
  have hx := B.exec
  have hb := B.bytes
  have hr := B.returns
  have hts := atoms_spec (ws := wsX6_check) B.pre
  have hown : s.vm.findClass RX6 = some m.cls := findClass_of_methodNamed B.named
  have hlocks := B.notSynchronized
  have hf147 : (Cond.fieldLink RX6 147 "RingPetitionModel" "bundled" "I").before #[.ref (ad 137)] s = true := hts _ (by decide +kernel)
  have hf54 : (Cond.fieldLink RX6 54 "RingPetitionModel" "row" "[I").before #[.ref (ad 137)] s = true := hts _ (by decide +kernel)
  have hf60 : (Cond.fieldLink RX6 60 "RingPetitionModel" "numbers" "[I").before #[.ref (ad 137)] s = true := hts _ (by decide +kernel)
  have hf63 : (Cond.fieldLink RX6 63 "RingPetitionModel" "thrown" "I").before #[.ref (ad 137)] s = true := hts _ (by decide +kernel)
  have hf81 : (Cond.fieldLink RX6 81 "RingPetitionModel" "value" "I").before #[.ref (ad 137)] s = true := hts _ (by decide +kernel)
  have hf95 : (Cond.fieldLink RX6 95 "RingPetitionModel" "base" "I").before #[.ref (ad 137)] s = true := hts _ (by decide +kernel)
  have hin_RX6 : ∀ w ∈ u_ws RX6 TX6 27, w ∈ wsX6_check := by decide +kernel
  have hS : va_S A s.heap s.heap [] := va_S.rf
  have hl := lv_entry ([.ref (ad 137)]) (n := 7) (Nat.le_of_ble_eq_true rfl)
  rw [lg_entry_eq]
  generalize (lg_sl ([.ref (ad 137)]) ++ List.replicate (7 - (lg_sl ([.ref (ad 137)])).length) Slot.unset).toArray = ls at hl ⊢
  have hl : lv_has ls 7 [(0, .ref (ad 137))] := hl
  refine lv_aload_n hx hb dX6_check_0 rfl (lv_at hl 0 rfl) ?_
  refine lv_aload_n hx hb dX6_check_1 rfl (lv_at hl 0 rfl) ?_
  refine va_get (D := D) (ci := 5) (v := .int (M 137 18)) (C := RX6) (T := TX6) (N := 27) hx hb hts hin_RX6 hown hE.1 hP 137 (wd_at (M := M) (show 137 < n by omega) ((g_137 cy ad) _)) rfl 18 (by decide) hf147 (fun _ h9 => h9) rfl dX6_check_2 ?_
  refine wr_top (y := (nI b0)) hb0 ?_
  refine lv_iconst (v := (nI 2)) hx hb dX6_check_5 (by decide) ?_
  refine lv_icmp_lt (tgt := 29) hx hb dX6_check_6 (by decide) (fun c_6 => ?_) (fun c_6 => ?_)
  · have c_6 := (nI_ltI (by omega) (by omega)).mp c_6
    refine lv_iconst (v := (nI 1)) hx hb dX6_check_29 (by decide) ?_
    refine lv_goto (tgt := 34) hx hb dX6_check_30 (by decide) ?_
    refine wr_put (cy := cy) (ad := ad) (ex := []) (ci := 5) (C := RX6) (T := TX6) (N := 27) (ty := .int) hx hb hts hin_RX6 tyX6 tyX6_ok nmX6 hown hE.1 hP hD hS 137 (show 137 < n by omega) ((g_137 cy ad) _) rfl 0 (by decide) hf63 (fun _ h9 => h9) rfl (by decide +kernel) rfl rfl (by simp) (((g_137 cy ad) _).trans (by simp [st_at])) dX6_check_34 (fun H locs hP hS => ?_)
    refine lv_aload_n hx hb dX6_check_37 rfl (lv_at hl 0 rfl) ?_
    refine va_get (D := D) (ci := 5) (v := .int ((st M 137 0 (nI 1)) 137 0)) (C := RX6) (T := TX6) (N := 27) hx hb hts hin_RX6 hown hE.1 hP 137 (wd_at (M := (st M 137 0 (nI 1))) (show 137 < n by omega) ((g_137 cy ad) _)) rfl 0 (by decide) hf63 (fun _ h9 => h9) rfl dX6_check_38 ?_
    refine wr_top (y := (nI 1)) (st_s _ _ _ _) ?_
    refine lv_if_eq (tgt := 46) hx hb dX6_check_41 (by decide) (fun c_41 => ?_) (fun c_41 => ?_)
    · exact absurd c_41 (by decide)
    · have c_41 := mt (o_eq0 _).mpr c_41
      rw [nI_toInt (by omega)] at c_41
      refine lv_iconst (v := (nI 0)) hx hb dX6_check_44 (by decide) ?_
      exact W.iret (v := (nI 0)) hx hb hr (fun t ht hW => ⟨⟨(nI 0), (st M 137 0 (nI 1)), rfl, Or.inr ⟨fun h => by have := h.1; have := h.2.1; have := h.2.2.1; omega, sc_rf _⟩, (by show va_P D vwCl _ t.heap; rw [ht]; exact hP)⟩, hS.F ht⟩) hS.2.2 dX6_check_45
  · have c_6 := mt (nI_ltI (by omega) (by omega)).mpr c_6
    refine lv_aload_n hx hb dX6_check_9 rfl (lv_at hl 0 rfl) ?_
    refine va_get (D := D) (ci := 5) (v := .ref (ad 151)) (C := RX6) (T := TX6) (N := 27) hx hb hts hin_RX6 hown hE.1 hP 137 (wd_at (M := M) (show 137 < n by omega) ((g_137 cy ad) _)) rfl 19 (by decide) hf54 (fun _ h9 => h9) rfl dX6_check_10 ?_
    refine lv_iconst (v := (nI 1)) hx hb dX6_check_13 (by decide) ?_
    refine wr_ald (cy := cy) (ad := ad) (ex := []) hx hb hE.1 hP 151 (show 151 < n by omega) ((g_151 cy ad) _) 1 rfl (by omega) (by decide) dX6_check_14 ?_
    refine lv_if_lt (tgt := 29) hx hb dX6_check_15 (by decide) (fun c_15 => ?_) (fun c_15 => ?_)
    · have c_15 := (o_lt0 _).mp c_15
      refine lv_iconst (v := (nI 1)) hx hb dX6_check_29 (by decide) ?_
      refine lv_goto (tgt := 34) hx hb dX6_check_30 (by decide) ?_
      refine wr_put (cy := cy) (ad := ad) (ex := []) (ci := 5) (C := RX6) (T := TX6) (N := 27) (ty := .int) hx hb hts hin_RX6 tyX6 tyX6_ok nmX6 hown hE.1 hP hD hS 137 (show 137 < n by omega) ((g_137 cy ad) _) rfl 0 (by decide) hf63 (fun _ h9 => h9) rfl (by decide +kernel) rfl rfl (by simp) (((g_137 cy ad) _).trans (by simp [st_at])) dX6_check_34 (fun H locs hP hS => ?_)
      refine lv_aload_n hx hb dX6_check_37 rfl (lv_at hl 0 rfl) ?_
      refine va_get (D := D) (ci := 5) (v := .int ((st M 137 0 (nI 1)) 137 0)) (C := RX6) (T := TX6) (N := 27) hx hb hts hin_RX6 hown hE.1 hP 137 (wd_at (M := (st M 137 0 (nI 1))) (show 137 < n by omega) ((g_137 cy ad) _)) rfl 0 (by decide) hf63 (fun _ h9 => h9) rfl dX6_check_38 ?_
      refine wr_top (y := (nI 1)) (st_s _ _ _ _) ?_
      refine lv_if_eq (tgt := 46) hx hb dX6_check_41 (by decide) (fun c_41 => ?_) (fun c_41 => ?_)
      · exact absurd c_41 (by decide)
      · have c_41 := mt (o_eq0 _).mpr c_41
        rw [nI_toInt (by omega)] at c_41
        refine lv_iconst (v := (nI 0)) hx hb dX6_check_44 (by decide) ?_
        exact W.iret (v := (nI 0)) hx hb hr (fun t ht hW => ⟨⟨(nI 0), (st M 137 0 (nI 1)), rfl, Or.inr ⟨fun h => by have := h.1; have := h.2.1; have := h.2.2.1; omega, sc_rf _⟩, (by show va_P D vwCl _ t.heap; rw [ht]; exact hP)⟩, hS.F ht⟩) hS.2.2 dX6_check_45
    · have c_15 := mt (o_lt0 _).mpr c_15
      refine lv_aload_n hx hb dX6_check_18 rfl (lv_at hl 0 rfl) ?_
      refine va_get (D := D) (ci := 5) (v := .ref (ad 151)) (C := RX6) (T := TX6) (N := 27) hx hb hts hin_RX6 hown hE.1 hP 137 (wd_at (M := M) (show 137 < n by omega) ((g_137 cy ad) _)) rfl 19 (by decide) hf54 (fun _ h9 => h9) rfl dX6_check_19 ?_
      refine lv_iconst (v := (nI 1)) hx hb dX6_check_22 (by decide) ?_
      refine wr_ald (cy := cy) (ad := ad) (ex := []) hx hb hE.1 hP 151 (show 151 < n by omega) ((g_151 cy ad) _) 1 rfl (by omega) (by decide) dX6_check_23 ?_
      refine lv_bipush (v := (nI 8)) hx hb dX6_check_24 (by decide) ?_
      refine lv_icmp_le (tgt := 33) hx hb dX6_check_26 (by decide) (fun c_26 => ?_) (fun c_26 => ?_)
      · have c_26 := (o_ge (by omega) _).mp c_26
        refine lv_iconst (v := (nI 0)) hx hb dX6_check_33 (by decide) ?_
        refine wr_put (cy := cy) (ad := ad) (ex := []) (ci := 5) (C := RX6) (T := TX6) (N := 27) (ty := .int) hx hb hts hin_RX6 tyX6 tyX6_ok nmX6 hown hE.1 hP hD hS 137 (show 137 < n by omega) ((g_137 cy ad) _) rfl 0 (by decide) hf63 (fun _ h9 => h9) rfl (by decide +kernel) rfl rfl (by simp) (((g_137 cy ad) _).trans (by simp [st_at])) dX6_check_34 (fun H locs hP hS => ?_)
        refine lv_aload_n hx hb dX6_check_37 rfl (lv_at hl 0 rfl) ?_
        refine va_get (D := D) (ci := 5) (v := .int ((st M 137 0 (nI 0)) 137 0)) (C := RX6) (T := TX6) (N := 27) hx hb hts hin_RX6 hown hE.1 hP 137 (wd_at (M := (st M 137 0 (nI 0))) (show 137 < n by omega) ((g_137 cy ad) _)) rfl 0 (by decide) hf63 (fun _ h9 => h9) rfl dX6_check_38 ?_
        refine wr_top (y := (nI 0)) (st_s _ _ _ _) ?_
        refine lv_if_eq (tgt := 46) hx hb dX6_check_41 (by decide) (fun c_41 => ?_) (fun c_41 => ?_)
        · have c_41 := (o_eq0 _).mp c_41
          rw [nI_toInt (by omega)] at c_41
          have hm8 : vN (M 151 1) ≤ 8 := by rw [vN_toInt]; omega
          refine lv_aload_n hx hb dX6_check_46 rfl (lv_at hl 0 rfl) ?_
          refine lv_aload_n hx hb dX6_check_47 rfl (lv_at hl 0 rfl) ?_
          refine va_get (D := D) (ci := 5) (v := .ref (ad 151)) (C := RX6) (T := TX6) (N := 27) hx hb hts hin_RX6 hown hE.1 hP 137 (wd_at (M := (st M 137 0 (nI 0))) (show 137 < n by omega) ((g_137 cy ad) _)) rfl 19 (by decide) hf54 (fun _ h9 => h9) rfl dX6_check_48 ?_
          refine lv_iconst (v := (nI 0)) hx hb dX6_check_51 (by decide) ?_
          refine wr_ald (cy := cy) (ad := ad) (ex := []) hx hb hE.1 hP 151 (show 151 < n by omega) ((g_151 cy ad) _) 0 rfl (by omega) (by decide) dX6_check_52 ?_
          refine wr_top (y := (M 151 0)) (by rw [st_r _ _ _ (by decide)]) ?_
          refine wr_put (cy := cy) (ad := ad) (ex := []) (ci := 5) (C := RX6) (T := TX6) (N := 27) (ty := .int) hx hb hts hin_RX6 tyX6 tyX6_ok nmX6 hown hE.1 hP hD hS 137 (show 137 < n by omega) ((g_137 cy ad) _) rfl 23 (by decide) hf81 (fun _ h9 => h9) rfl (by decide +kernel) rfl rfl (by simp) (((g_137 cy ad) _).trans (by simp [st_at])) dX6_check_53 (fun H locs hP hS => ?_)
          refine lv_aload_n hx hb dX6_check_56 rfl (lv_at hl 0 rfl) ?_
          refine lv_aload_n hx hb dX6_check_57 rfl (lv_at hl 0 rfl) ?_
          refine lv_aload_n hx hb dX6_check_58 rfl (lv_at hl 0 rfl) ?_
          refine va_get (D := D) (ci := 5) (v := .int ((st (st M 137 0 (nI 0)) 137 23 (M 151 0)) 137 23)) (C := RX6) (T := TX6) (N := 27) hx hb hts hin_RX6 hown hE.1 hP 137 (wd_at (M := (st (st M 137 0 (nI 0)) 137 23 (M 151 0))) (show 137 < n by omega) ((g_137 cy ad) _)) rfl 23 (by decide) hf81 (fun _ h9 => h9) rfl dX6_check_59 ?_
          refine wr_top (y := (M 151 0)) (st_s _ _ _ _) ?_
          refine va_calli (va_runV (As := [.int (M 151 0)]) (rest := [.ref (ad 137)]) ⟨hx, hb, hml, hown, hts⟩ (kX6_baseOf l (M := (st (st M 137 0 (nI 0)) 137 23 (M 151 0))) hD hn (tb_mx htb (by rw [st_r _ _ _ (by decide), st_r _ _ _ (by decide)]) (by rw [st_r _ _ _ (by decide), st_r _ _ _ (by decide)]))) (cwV 1 hts gX6_check_X6_baseOf rfl rfl rfl (by decide +kernel) ⟨Nat.le_of_ble_eq_true rfl, Nat.le_of_ble_eq_true rfl⟩) (rw_pv (ci := 5) (q := (RX6, TX6, 27)) hE hP hS hA rfl (wd_at (M := (st (st M 137 0 (nI 0)) 137 23 (M 151 0))) (show 137 < n by omega) ((g_137 cy ad) _))) rfl rfl hl.1 rfl (lv_room (Nat.le_of_ble_eq_true rfl)) dX6_check_62 ⟨Nat.le_of_ble_eq_true rfl, Nat.le_of_ble_eq_true rfl⟩) hS (fun q _ h => h) (fun q h => h) (fun r_62 u_62 t H1 locs ht hvm hr_62 hB_62 hz1 hk1 hS => ?_)
          have hP : va_P D vwCl (wd cy ad n u_62 ++ []) H1 := by rw [← ht]; exact hB_62
          clear hB_62 ht hvm hz1 hk1
          generalize H1 = H at hP hS ⊢
          obtain ⟨rfl, hmx⟩ := hr_62
          refine wr_put (cy := cy) (ad := ad) (ex := []) (ci := 5) (C := RX6) (T := TX6) (N := 27) (ty := .int) hx hb hts hin_RX6 tyX6 tyX6_ok nmX6 hown hE.1 hP hD hS 137 (show 137 < n by omega) ((g_137 cy ad) _) rfl 22 (by decide) hf95 (fun _ h9 => h9) rfl (by decide +kernel) rfl rfl (by simp) (((g_137 cy ad) _).trans (by simp [st_at])) dX6_check_65 (fun H locs hP hS => ?_)
          refine lv_iconst (v := (nI 2)) hx hb dX6_check_68 (by decide) ?_
          refine lv_istore_n (lv' := [(1, .int (nI 2)), (0, .ref (ad 137))]) hx hb dX6_check_69 rfl hl (by decide) rfl (fun ls hl => ?_)
          refine lv_iconst (v := (nI 0)) hx hb dX6_check_70 (by decide) ?_
          refine lv_istore_n (lv' := [(2, .int (nI 0)), (1, .int (nI 2)), (0, .ref (ad 137))]) hx hb dX6_check_71 rfl hl (by decide) rfl (fun ls hl => ?_)
          refine wloopW (fun kq (xq : Nat × Mm) H locs ls => match xq with | (k, Mk) => kq = vN (M 151 1) - k ∧ (k ≤ vN (M 151 1) ∧ scM (st M 137 0 (nI 0)) Mk ∧ Mk 137 22 = nI (tB (M 151 0)) ∧ Mk 137 23 = (M 151 0) ∧ (∀ j, j < k → okK (M 151) b0 (M 151 0) (tB (M 151 0)) j) ∧ coN (M 151) k ≤ 200) ∧ va_P D vwCl (wd cy ad n Mk ++ []) H ∧ va_S A s.heap H locs ∧ lv_has ls 7 [(2, .int (nI k)), (0, .ref (ad 137)), (1, .int (nI (coN (M 151) k)))]) (fun k72 x72 H locs ls h72 ih72 => ?_) _ (0, st u_62 137 22 (nI (tB (M 151 0)))) _ _ ls ⟨rfl, ⟨Nat.zero_le _, ⟨fun a a1 _ _ => by rw [st_r _ _ _ a1, hmx.1 a a1, st_r _ _ _ a1], fun c _ a2 a3 _ a5 => by rw [st_c _ _ _ a2, hmx.2 c a5, st_c _ _ _ a3]⟩, st_s _ _ _ _, by rw [st_c _ _ _ (by decide), hmx.2 23 (by decide), st_s], fun j h => absurd h (Nat.not_lt_zero j), (show 2 ≤ 200 by decide)⟩, hP, hS, lv_sub hl [0, 2, 1] rfl⟩
          obtain ⟨k, Mk⟩ := x72
          obtain ⟨hk72, hI, hP, hS, hl⟩ := h72
          refine lv_iload_n hx hb dX6_check_72 rfl (lv_at hl 0 rfl) ?_
          refine lv_aload_n hx hb dX6_check_73 rfl (lv_at hl 1 rfl) ?_
          refine va_get (D := D) (ci := 5) (v := .ref (ad 151)) (C := RX6) (T := TX6) (N := 27) hx hb hts hin_RX6 hown hE.1 hP 137 (wd_at (M := Mk) (show 137 < n by omega) ((g_137 cy ad) _)) rfl 19 (by decide) hf54 (fun _ h9 => h9) rfl dX6_check_74 ?_
          refine lv_iconst (v := (nI 1)) hx hb dX6_check_77 (by decide) ?_
          refine wr_ald (cy := cy) (ad := ad) (ex := []) hx hb hE.1 hP 151 (show 151 < n by omega) ((g_151 cy ad) _) 1 rfl (by omega) (by decide) dX6_check_78 ?_
          refine wr_top (y := (nI (vN (M 151 1)))) (by rw [hI.2.1.1 151 (by decide) (by decide) (by decide), st_r _ _ _ (by decide)]; exact x_vN (by omega)) ?_
          refine lv_icmp_ge (tgt := 191) hx hb dX6_check_79 (by decide) (fun c_79 => ?_) (fun c_79 => ?_)
          · have c_79 := (nI_leI (by omega) (by omega)).mp c_79
            have hke : k = vN (M 151 1) := by omega
            refine lv_aload_n hx hb dX6_check_191 rfl (lv_at hl 1 rfl) ?_
            refine lv_iload_n hx hb dX6_check_192 rfl (lv_at hl 2 rfl) ?_
            refine lv_aload_n hx hb dX6_check_193 rfl (lv_at hl 1 rfl) ?_
            refine va_get (D := D) (ci := 5) (v := .int (Mk 137 18)) (C := RX6) (T := TX6) (N := 27) hx hb hts hin_RX6 hown hE.1 hP 137 (wd_at (M := Mk) (show 137 < n by omega) ((g_137 cy ad) _)) rfl 18 (by decide) hf147 (fun _ h9 => h9) rfl dX6_check_194 ?_
            refine wr_top (y := ((st M 137 0 (nI 0)) 137 18)) (hI.2.1.2 _ (by decide) (by decide) (by decide) (by decide) (by decide)) ?_
            refine wr_top (y := (M 137 18)) (st_c _ _ _ (by decide)) ?_
            refine wr_top (y := (nI b0)) hb0 ?_
            refine lv_icmp_ne (tgt := 204) hx hb dX6_check_197 (by decide) (fun c_197 => ?_) (fun c_197 => ?_)
            · have c_197 := mt (nI_eq (by omega) (by omega)).mpr c_197
              refine lv_iconst (v := (nI 1)) hx hb dX6_check_204 (by decide) ?_
              refine wr_put (cy := cy) (ad := ad) (ex := []) (ci := 5) (C := RX6) (T := TX6) (N := 27) (ty := .int) hx hb hts hin_RX6 tyX6 tyX6_ok nmX6 hown hE.1 hP hD hS 137 (show 137 < n by omega) ((g_137 cy ad) _) rfl 0 (by decide) hf63 (fun _ h9 => h9) rfl (by decide +kernel) rfl rfl (by simp) (((g_137 cy ad) _).trans (by simp [st_at])) dX6_check_205 (fun H locs hP hS => ?_)
              refine lv_aload_n hx hb dX6_check_208 rfl (lv_at hl 1 rfl) ?_
              refine va_get (D := D) (ci := 5) (v := .int ((st Mk 137 0 (nI 1)) 137 0)) (C := RX6) (T := TX6) (N := 27) hx hb hts hin_RX6 hown hE.1 hP 137 (wd_at (M := (st Mk 137 0 (nI 1))) (show 137 < n by omega) ((g_137 cy ad) _)) rfl 0 (by decide) hf63 (fun _ h9 => h9) rfl dX6_check_209 ?_
              refine wr_top (y := (nI 1)) (st_s _ _ _ _) ?_
              refine lv_if_ne (tgt := 224) hx hb dX6_check_212 (by decide) (fun c_212 => ?_) (fun c_212 => ?_)
              · have c_212 := mt (o_eq0 _).mpr c_212
                rw [nI_toInt (by omega)] at c_212
                refine lv_iconst (v := (nI 0)) hx hb dX6_check_224 (by decide) ?_
                exact W.iret (v := (nI 0)) hx hb hr (fun t ht hW => ⟨⟨(nI 0), (st Mk 137 0 (nI 1)), rfl, Or.inr ⟨fun h => c_197 (by rw [hke]; exact h.2.2.2.2), sc_th hI.2.1⟩, (by show va_P D vwCl _ t.heap; rw [ht]; exact hP)⟩, hS.F ht⟩) hS.2.2 dX6_check_225
              · exact absurd c_212 (by decide)
            · have c_197 := (nI_eq (by omega) (by omega)).mp c_197
              refine lv_iconst (v := (nI 0)) hx hb dX6_check_200 (by decide) ?_
              refine lv_goto (tgt := 205) hx hb dX6_check_201 (by decide) ?_
              refine wr_put (cy := cy) (ad := ad) (ex := []) (ci := 5) (C := RX6) (T := TX6) (N := 27) (ty := .int) hx hb hts hin_RX6 tyX6 tyX6_ok nmX6 hown hE.1 hP hD hS 137 (show 137 < n by omega) ((g_137 cy ad) _) rfl 0 (by decide) hf63 (fun _ h9 => h9) rfl (by decide +kernel) rfl rfl (by simp) (((g_137 cy ad) _).trans (by simp [st_at])) dX6_check_205 (fun H locs hP hS => ?_)
              refine lv_aload_n hx hb dX6_check_208 rfl (lv_at hl 1 rfl) ?_
              refine va_get (D := D) (ci := 5) (v := .int ((st Mk 137 0 (nI 0)) 137 0)) (C := RX6) (T := TX6) (N := 27) hx hb hts hin_RX6 hown hE.1 hP 137 (wd_at (M := (st Mk 137 0 (nI 0))) (show 137 < n by omega) ((g_137 cy ad) _)) rfl 0 (by decide) hf63 (fun _ h9 => h9) rfl dX6_check_209 ?_
              refine wr_top (y := (nI 0)) (st_s _ _ _ _) ?_
              refine lv_if_ne (tgt := 224) hx hb dX6_check_212 (by decide) (fun c_212 => ?_) (fun c_212 => ?_)
              · exact absurd c_212 (by decide)
              · have c_212 := (o_eq0 _).mp c_212
                rw [nI_toInt (by omega)] at c_212
                refine lv_aload_n hx hb dX6_check_215 rfl (lv_at hl 1 rfl) ?_
                refine va_get (D := D) (ci := 5) (v := .ref (ad 151)) (C := RX6) (T := TX6) (N := 27) hx hb hts hin_RX6 hown hE.1 hP 137 (wd_at (M := (st Mk 137 0 (nI 0))) (show 137 < n by omega) ((g_137 cy ad) _)) rfl 19 (by decide) hf54 (fun _ h9 => h9) rfl dX6_check_216 ?_
                refine lv_iconst (v := (nI 1)) hx hb dX6_check_219 (by decide) ?_
                refine wr_ald (cy := cy) (ad := ad) (ex := []) hx hb hE.1 hP 151 (show 151 < n by omega) ((g_151 cy ad) _) 1 rfl (by omega) (by decide) dX6_check_220 ?_
                refine wr_top (y := (Mk 151 1)) (by rw [st_r _ _ _ (by decide)]) ?_
                refine wr_top (y := ((st M 137 0 (nI 0)) 151 1)) (by rw [hI.2.1.1 _ (by decide) (by decide) (by decide)]) ?_
                refine wr_top (y := (M 151 1)) (by rw [st_r _ _ _ (by decide)]) ?_
                refine lv_goto (tgt := 225) hx hb dX6_check_221 (by decide) ?_
                exact W.iret (v := (M 151 1)) hx hb hr (fun t ht hW => ⟨⟨(M 151 1), (st Mk 137 0 (nI 0)), rfl, Or.inl ⟨⟨by omega, by omega, by omega, fun j hj => hI.2.2.2.2.1 j (by omega), by rw [← hke]; exact c_197⟩, rfl, sc_th hI.2.1⟩, (by show va_P D vwCl _ t.heap; rw [ht]; exact hP)⟩, hS.F ht⟩) hS.2.2 dX6_check_225
          · have c_79 := mt (nI_leI (by omega) (by omega)).mpr c_79
            refine lv_aload_n hx hb dX6_check_82 rfl (lv_at hl 1 rfl) ?_
            refine lv_iload_n hx hb dX6_check_83 rfl (lv_at hl 2 rfl) ?_
            have e151 : Mk 151 = M 151 := (hI.2.1.1 151 (by decide) (by decide) (by decide)).trans (st_r _ _ _ (by decide))
            have hf : ∀ a, a ≠ 137 → a ≠ 152 → a ≠ 153 → Mk a = M a := fun a h1 h2 h3 => (hI.2.1.1 a h1 h2 h3).trans (s0_f a h1 h2 h3)
            have e18 : Mk 137 18 = nI b0 := by rw [hI.2.1.2 18 (by decide) (by decide) (by decide) (by decide) (by decide), st_c _ _ _ (by decide)]; exact hb0
            refine va_calli (va_runV (As := [.int (nI (coN (M 151) k))]) (rest := []) ⟨hx, hb, hml, hown, hts⟩ (kX6_readOne l (M := Mk) hD hn (a0 := coN (M 151) k) e18 hb1 hI.2.2.2.2.2 (tb_sc htb hf) hI.2.2.1 (tB_el _)) (cwV 1 hts gX6_check_X6_readOne rfl rfl rfl (by decide +kernel) ⟨Nat.le_of_ble_eq_true rfl, Nat.le_of_ble_eq_true rfl⟩) (rw_pv (ci := 5) (q := (RX6, TX6, 27)) hE hP hS hA rfl (wd_at (M := Mk) (show 137 < n by omega) ((g_137 cy ad) _))) rfl rfl hl.1 rfl (lv_room (Nat.le_of_ble_eq_true rfl)) dX6_check_84 ⟨Nat.le_of_ble_eq_true rfl, Nat.le_of_ble_eq_true rfl⟩) hS (fun q _ h => h) (fun q h => h) (fun r_84 u_84 t H1 locs ht hvm hr_84 hB_84 hz1 hk1 hS => ?_)
            have hP : va_P D vwCl (wd cy ad n u_84 ++ []) H1 := by rw [← ht]; exact hB_84
            clear hB_84 ht hvm hz1 hk1
            generalize H1 = H at hP hS ⊢
            obtain ⟨hr_84, hro⟩ := hr_84
            rw [e151, hI.2.2.2.1] at hr_84
            have hsu := sc_tr hI.2.1 (sc_ro hro)
            have hu22 : u_84 137 22 = nI (tB (M 151 0)) := (hro.2 22 (by decide) (by decide) (by decide)).trans hI.2.2.1
            have hu23 : u_84 137 23 = (M 151 0) := (hro.2 23 (by decide) (by decide) (by decide)).trans hI.2.2.2.1
            rcases hr_84 with ⟨hok, rfl, htag⟩ | ⟨hno, rfl⟩
            · have hco : coN (M 151) (k + 1) = coN (M 151) k + 4 + 2 * pkN (M 151) (coN (M 151) k) := rfl
              have hle := hok.2.2.2.1
              refine lv_istore_n (lv' := [(3, .int (nI (coN (M 151) (k + 1)))), (2, .int (nI k)), (0, .ref (ad 137)), (1, .int (nI (coN (M 151) k)))]) hx hb dX6_check_87 rfl hl (by decide) rfl (fun ls hl => ?_)
              refine lv_iconst (v := (nI 2)) hx hb dX6_check_88 (by decide) ?_
              refine lv_istore (lv' := [(4, .int (nI 2)), (3, .int (nI (coN (M 151) (k + 1)))), (2, .int (nI k)), (0, .ref (ad 137)), (1, .int (nI (coN (M 151) k)))]) hx hb dX6_check_89 hl (by decide) rfl (fun ls hl => ?_)
              refine lv_iconst (v := (nI 0)) hx hb dX6_check_91 (by decide) ?_
              refine lv_istore (lv' := [(5, .int (nI 0)), (4, .int (nI 2)), (3, .int (nI (coN (M 151) (k + 1)))), (2, .int (nI k)), (0, .ref (ad 137)), (1, .int (nI (coN (M 151) k)))]) hx hb dX6_check_92 hl (by decide) rfl (fun ls hl => ?_)
              refine lv_iconst (v := (nI 0)) hx hb dX6_check_94 (by decide) ?_
              refine lv_istore (lv' := [(6, .int (nI 0)), (5, .int (nI 0)), (4, .int (nI 2)), (3, .int (nI (coN (M 151) (k + 1)))), (2, .int (nI k)), (0, .ref (ad 137)), (1, .int (nI (coN (M 151) k)))]) hx hb dX6_check_95 hl (by decide) rfl (fun ls hl => ?_)
              refine wloopR (fun kq (xq : Nat × Int32) ls => match xq with | (j, hv) => kq = k - j ∧ (j ≤ k ∧ bP (∃ q, q < j ∧ tgN (M 151) q = tgN (M 151) k) hv) ∧ lv_has ls 7 [(6, .int (nI j)), (5, .int hv), (4, .int (nI (coN (M 151) j))), (3, .int (nI (coN (M 151) (k + 1)))), (0, .ref (ad 137)), (1, .int (nI (coN (M 151) k))), (2, .int (nI k))]) (fun k97 x97 ls h97 ih97 => ?_) _ (0, 0) ls ⟨rfl, ⟨Nat.zero_le _, bP_0 (fun h => by obtain ⟨q, hq, _⟩ := h; exact absurd hq (Nat.not_lt_zero q))⟩, lv_sub hl [0, 1, 2, 3, 5, 6, 4] rfl⟩
              obtain ⟨j, hv⟩ := x97
              obtain ⟨hk97, hJ, hl⟩ := h97
              refine lv_iload hx hb dX6_check_97 (lv_at hl 0 rfl) ?_
              refine lv_iload_n hx hb dX6_check_99 rfl (lv_at hl 6 rfl) ?_
              refine lv_icmp_ge (tgt := 167) hx hb dX6_check_100 (by decide) (fun c_100 => ?_) (fun c_100 => ?_)
              · have c_100 := (nI_leI (by omega) (by omega)).mp c_100
                rcases hJ.2 with ⟨hy_g, hv_g⟩ | ⟨hy_g, hv_g⟩
                · subst hv_g
                  refine lv_iload_n hx hb dX6_check_167 rfl (lv_at hl 3 rfl) ?_
                  refine lv_if_lt (tgt := 176) hx hb dX6_check_168 (by decide) (fun c_168 => ?_) (fun c_168 => ?_)
                  · have c_168 := (o_lt0 _).mp c_168
                    rw [nI_toInt (by omega)] at c_168
                    exfalso; omega
                  · have c_168 := mt (o_lt0 _).mpr c_168
                    rw [nI_toInt (by omega)] at c_168
                    refine lv_iload hx hb dX6_check_171 (lv_at hl 1 rfl) ?_
                    refine lv_if_eq (tgt := 183) hx hb dX6_check_173 (by decide) (fun c_173 => ?_) (fun c_173 => ?_)
                    · exact absurd c_173 (by decide)
                    · have c_173 := mt (o_eq0 _).mpr c_173
                      refine lv_aload_n hx hb dX6_check_176 rfl (lv_at hl 4 rfl) ?_
                      refine lv_iconst (v := (nI 1)) hx hb dX6_check_177 (by decide) ?_
                      refine wr_put (cy := cy) (ad := ad) (ex := []) (ci := 5) (C := RX6) (T := TX6) (N := 27) (ty := .int) hx hb hts hin_RX6 tyX6 tyX6_ok nmX6 hown hE.1 hP hD hS 137 (show 137 < n by omega) ((g_137 cy ad) _) rfl 0 (by decide) hf63 (fun _ h9 => h9) rfl (by decide +kernel) rfl rfl (by simp) (((g_137 cy ad) _).trans (by simp [st_at])) dX6_check_178 (fun H locs hP hS => ?_)
                      refine lv_iconst (v := (nI 0)) hx hb dX6_check_181 (by decide) ?_
                      exact W.iret (v := (nI 0)) hx hb hr (fun t ht hW => ⟨⟨(nI 0), (st u_84 137 0 (nI 1)), rfl, Or.inr ⟨fun h => by obtain ⟨q, hq, hq2⟩ := hy_g; exact (h.2.2.2.1 k (by omega)).2 q (by omega) hq2, sc_th hsu⟩, (by show va_P D vwCl _ t.heap; rw [ht]; exact hP)⟩, hS.F ht⟩) hS.2.2 dX6_check_182
                · subst hv_g
                  refine lv_iload_n hx hb dX6_check_167 rfl (lv_at hl 3 rfl) ?_
                  refine lv_if_lt (tgt := 176) hx hb dX6_check_168 (by decide) (fun c_168 => ?_) (fun c_168 => ?_)
                  · have c_168 := (o_lt0 _).mp c_168
                    rw [nI_toInt (by omega)] at c_168
                    exfalso; omega
                  · have c_168 := mt (o_lt0 _).mpr c_168
                    rw [nI_toInt (by omega)] at c_168
                    refine lv_iload hx hb dX6_check_171 (lv_at hl 1 rfl) ?_
                    refine lv_if_eq (tgt := 183) hx hb dX6_check_173 (by decide) (fun c_173 => ?_) (fun c_173 => ?_)
                    · have c_173 := (o_eq0 _).mp c_173
                      refine lv_iload_n hx hb dX6_check_183 rfl (lv_at hl 3 rfl) ?_
                      refine lv_istore_n (lv' := [(1, .int (nI (coN (M 151) (k + 1)))), (6, .int (nI j)), (5, .int 0), (4, .int (nI (coN (M 151) j))), (3, .int (nI (coN (M 151) (k + 1)))), (0, .ref (ad 137)), (2, .int (nI k))]) hx hb dX6_check_184 rfl hl (by decide) rfl (fun ls hl => ?_)
                      refine lv_iinc (v := (nI (k + 1))) (lv' := [(2, .int (nI (k + 1))), (1, .int (nI (coN (M 151) (k + 1)))), (6, .int (nI j)), (5, .int 0), (4, .int (nI (coN (M 151) j))), (3, .int (nI (coN (M 151) (k + 1)))), (0, .ref (ad 137))]) hx hb dX6_check_185 hl (k := 6) rfl (nI_1 _) (by decide) rfl (fun ls hl => ?_)
                      refine lv_goto (tgt := 72) hx hb dX6_check_188 (by decide) ?_
                      exact ih72 _ (k + 1, u_84) _ _ _ (by omega) ⟨rfl, ⟨by omega, hsu, hu22, hu23, fun j hj => by rcases Nat.lt_or_ge j k with h | h <;> first | exact hI.2.2.2.2.1 j h | (rw [show j = k by omega]; exact ⟨hok, fun q hq e9 => hy_g ⟨q, by omega, e9⟩⟩), by omega⟩, hP, hS, (lv_sub hl [0, 6, 1] rfl)⟩
                    · exact absurd c_173 (by decide)
              · have c_100 := mt (nI_leI (by omega) (by omega)).mpr c_100
                refine lv_iload_n hx hb dX6_check_103 rfl (lv_at hl 3 rfl) ?_
                refine lv_if_le (tgt := 167) hx hb dX6_check_104 (by decide) (fun c_104 => ?_) (fun c_104 => ?_)
                · have c_104 := (o_le0 _).mp c_104
                  rw [nI_toInt (by omega)] at c_104
                  exfalso; omega
                · have c_104 := mt (o_le0 _).mpr c_104
                  rw [nI_toInt (by omega)] at c_104
                  have hoj := (hI.2.2.2.2.1 j (by omega)).1
                  have hj1 := hoj.1
                  have hj2 := hoj.2.1
                  have hj3 := hoj.2.2.1
                  have hj4 := hoj.2.2.2.1
                  rcases hJ.2 with ⟨hy_f, hv_f⟩ | ⟨hy_f, hv_f⟩
                  · subst hv_f
                    refine lv_iload hx hb dX6_check_107 (lv_at hl 1 rfl) ?_
                    refine lv_if_ne (tgt := 138) hx hb dX6_check_109 (by decide) (fun c_109 => ?_) (fun c_109 => ?_)
                    · have c_109 := mt (o_eq0 _).mpr c_109
                      refine lv_iconst (v := (nI 1)) hx hb dX6_check_138 (by decide) ?_
                      refine lv_goto (tgt := 143) hx hb dX6_check_139 (by decide) ?_
                      refine lv_istore (lv' := [(5, .int (nI 1)), (6, .int (nI j)), (4, .int (nI (coN (M 151) j))), (3, .int (nI (coN (M 151) (k + 1)))), (0, .ref (ad 137)), (1, .int (nI (coN (M 151) k))), (2, .int (nI k))]) hx hb dX6_check_143 hl (by decide) rfl (fun ls hl => ?_)
                      refine lv_iload hx hb dX6_check_145 (lv_at hl 2 rfl) ?_
                      refine lv_iconst (v := (nI 4)) hx hb dX6_check_147 (by decide) ?_
                      refine lv_iconst (v := (nI 2)) hx hb dX6_check_148 (by decide) ?_
                      refine lv_aload_n hx hb dX6_check_149 rfl (lv_at hl 4 rfl) ?_
                      refine va_get (D := D) (ci := 5) (v := .ref (ad 151)) (C := RX6) (T := TX6) (N := 27) hx hb hts hin_RX6 hown hE.1 hP 137 (wd_at (M := u_84) (show 137 < n by omega) ((g_137 cy ad) _)) rfl 19 (by decide) hf54 (fun _ h9 => h9) rfl dX6_check_150 ?_
                      refine lv_iload hx hb dX6_check_153 (lv_at hl 2 rfl) ?_
                      refine wr_ald (cy := cy) (ad := ad) (ex := []) hx hb hE.1 hP 151 (show 151 < n by omega) ((g_151 cy ad) _) (coN (M 151) j) rfl (by omega) (by decide) dX6_check_155 ?_
                      refine wr_top (y := ((st M 137 0 (nI 0)) 151 (coN (M 151) j))) (by rw [hsu.1 _ (by decide) (by decide) (by decide)]) ?_
                      refine wr_top (y := (M 151 (coN (M 151) j))) (by rw [st_r _ _ _ (by decide)]) ?_
                      refine lv_imul hx hb dX6_check_156 ?_
                      refine wr_top (y := (nI (2 * pkN (M 151) (coN (M 151) j)))) (xm_vN 2 (by omega)) ?_
                      refine lv_iadd hx hb dX6_check_157 ?_
                      refine wr_top (y := (nI (4 + (2 * pkN (M 151) (coN (M 151) j))))) (nI_add _ _) ?_
                      refine lv_iadd hx hb dX6_check_158 ?_
                      refine wr_top (y := (nI (coN (M 151) (j + 1)))) ((nI_add _ _).trans (congrArg nI (by show _ = coN (M 151) j + 4 + 2 * pkN (M 151) (coN (M 151) j); omega))) ?_
                      refine lv_istore (lv' := [(4, .int (nI (coN (M 151) (j + 1)))), (5, .int (nI 1)), (6, .int (nI j)), (3, .int (nI (coN (M 151) (k + 1)))), (0, .ref (ad 137)), (1, .int (nI (coN (M 151) k))), (2, .int (nI k))]) hx hb dX6_check_159 hl (by decide) rfl (fun ls hl => ?_)
                      refine lv_iinc (v := (nI (j + 1))) (lv' := [(6, .int (nI (j + 1))), (4, .int (nI (coN (M 151) (j + 1)))), (5, .int (nI 1)), (3, .int (nI (coN (M 151) (k + 1)))), (0, .ref (ad 137)), (1, .int (nI (coN (M 151) k))), (2, .int (nI k))]) hx hb dX6_check_161 hl (k := 2) rfl (nI_1 _) (by decide) rfl (fun ls hl => ?_)
                      refine lv_goto (tgt := 97) hx hb dX6_check_164 (by decide) ?_
                      exact ih97 _ (j + 1, (nI 1)) _ (by omega) ⟨rfl, ⟨by omega, bP_1 (by obtain ⟨q, hq, hq2⟩ := hy_f; exact ⟨q, by omega, hq2⟩)⟩, (lv_sub hl [0, 2, 1, 3, 4, 5, 6] rfl)⟩
                    · exact absurd c_109 (by decide)
                  · subst hv_f
                    refine lv_iload hx hb dX6_check_107 (lv_at hl 1 rfl) ?_
                    refine lv_if_ne (tgt := 138) hx hb dX6_check_109 (by decide) (fun c_109 => ?_) (fun c_109 => ?_)
                    · exact absurd c_109 (by decide)
                    · have c_109 := (o_eq0 _).mp c_109
                      refine lv_aload_n hx hb dX6_check_112 rfl (lv_at hl 4 rfl) ?_
                      refine va_get (D := D) (ci := 5) (v := .ref (ad 151)) (C := RX6) (T := TX6) (N := 27) hx hb hts hin_RX6 hown hE.1 hP 137 (wd_at (M := u_84) (show 137 < n by omega) ((g_137 cy ad) _)) rfl 19 (by decide) hf54 (fun _ h9 => h9) rfl dX6_check_113 ?_
                      refine lv_iload hx hb dX6_check_116 (lv_at hl 2 rfl) ?_
                      refine lv_aload_n hx hb dX6_check_118 rfl (lv_at hl 4 rfl) ?_
                      refine va_get (D := D) (ci := 5) (v := .ref (ad 151)) (C := RX6) (T := TX6) (N := 27) hx hb hts hin_RX6 hown hE.1 hP 137 (wd_at (M := u_84) (show 137 < n by omega) ((g_137 cy ad) _)) rfl 19 (by decide) hf54 (fun _ h9 => h9) rfl dX6_check_119 ?_
                      refine lv_iload hx hb dX6_check_122 (lv_at hl 2 rfl) ?_
                      refine wr_ald (cy := cy) (ad := ad) (ex := []) hx hb hE.1 hP 151 (show 151 < n by omega) ((g_151 cy ad) _) (coN (M 151) j) rfl (by omega) (by decide) dX6_check_124 ?_
                      refine wr_top (y := ((st M 137 0 (nI 0)) 151 (coN (M 151) j))) (by rw [hsu.1 _ (by decide) (by decide) (by decide)]) ?_
                      refine wr_top (y := (M 151 (coN (M 151) j))) (by rw [st_r _ _ _ (by decide)]) ?_
                      refine lv_iadd hx hb dX6_check_125 ?_
                      refine wr_top (y := (nI (coN (M 151) j + pkN (M 151) (coN (M 151) j)))) (xa_vN _ (by omega)) ?_
                      refine lv_iconst (v := (nI 3)) hx hb dX6_check_126 (by decide) ?_
                      refine lv_iadd hx hb dX6_check_127 ?_
                      refine wr_top (y := (nI (coN (M 151) j + 2 + pkN (M 151) (coN (M 151) j) + 1))) ((nI_add _ _).trans (congrArg nI (by omega))) ?_
                      refine wr_ald (cy := cy) (ad := ad) (ex := []) hx hb hE.1 hP 151 (show 151 < n by omega) ((g_151 cy ad) _) (coN (M 151) j + 2 + pkN (M 151) (coN (M 151) j) + 1) rfl (by omega) (by decide) dX6_check_128 ?_
                      refine wr_top (y := (tgN (M 151) j)) (by rw [hsu.1 151 (by decide) (by decide) (by decide), st_r _ _ _ (by decide)]; rfl) ?_
                      refine lv_aload_n hx hb dX6_check_129 rfl (lv_at hl 4 rfl) ?_
                      refine va_get (D := D) (ci := 5) (v := .ref (ad 153)) (C := RX6) (T := TX6) (N := 27) hx hb hts hin_RX6 hown hE.1 hP 137 (wd_at (M := u_84) (show 137 < n by omega) ((g_137 cy ad) _)) rfl 25 (by decide) hf60 (fun _ h9 => h9) rfl dX6_check_130 ?_
                      refine lv_iconst (v := (nI 1)) hx hb dX6_check_133 (by decide) ?_
                      refine wr_ald (cy := cy) (ad := ad) (ex := []) hx hb hE.1 hP 153 (show 153 < n by omega) ((g_153 cy ad) _) 1 rfl (by omega) (by decide) dX6_check_134 ?_
                      refine wr_top (y := (tgN (M 151) k)) htag ?_
                      refine lv_icmp_ne (tgt := 142) hx hb dX6_check_135 (by decide) (fun c_135 => ?_) (fun c_135 => ?_)
                      · refine lv_iconst (v := (nI 0)) hx hb dX6_check_142 (by decide) ?_
                        refine lv_istore (lv' := [(5, .int (nI 0)), (6, .int (nI j)), (4, .int (nI (coN (M 151) j))), (3, .int (nI (coN (M 151) (k + 1)))), (0, .ref (ad 137)), (1, .int (nI (coN (M 151) k))), (2, .int (nI k))]) hx hb dX6_check_143 hl (by decide) rfl (fun ls hl => ?_)
                        refine lv_iload hx hb dX6_check_145 (lv_at hl 2 rfl) ?_
                        refine lv_iconst (v := (nI 4)) hx hb dX6_check_147 (by decide) ?_
                        refine lv_iconst (v := (nI 2)) hx hb dX6_check_148 (by decide) ?_
                        refine lv_aload_n hx hb dX6_check_149 rfl (lv_at hl 4 rfl) ?_
                        refine va_get (D := D) (ci := 5) (v := .ref (ad 151)) (C := RX6) (T := TX6) (N := 27) hx hb hts hin_RX6 hown hE.1 hP 137 (wd_at (M := u_84) (show 137 < n by omega) ((g_137 cy ad) _)) rfl 19 (by decide) hf54 (fun _ h9 => h9) rfl dX6_check_150 ?_
                        refine lv_iload hx hb dX6_check_153 (lv_at hl 2 rfl) ?_
                        refine wr_ald (cy := cy) (ad := ad) (ex := []) hx hb hE.1 hP 151 (show 151 < n by omega) ((g_151 cy ad) _) (coN (M 151) j) rfl (by omega) (by decide) dX6_check_155 ?_
                        refine wr_top (y := ((st M 137 0 (nI 0)) 151 (coN (M 151) j))) (by rw [hsu.1 _ (by decide) (by decide) (by decide)]) ?_
                        refine wr_top (y := (M 151 (coN (M 151) j))) (by rw [st_r _ _ _ (by decide)]) ?_
                        refine lv_imul hx hb dX6_check_156 ?_
                        refine wr_top (y := (nI (2 * pkN (M 151) (coN (M 151) j)))) (xm_vN 2 (by omega)) ?_
                        refine lv_iadd hx hb dX6_check_157 ?_
                        refine wr_top (y := (nI (4 + (2 * pkN (M 151) (coN (M 151) j))))) (nI_add _ _) ?_
                        refine lv_iadd hx hb dX6_check_158 ?_
                        refine wr_top (y := (nI (coN (M 151) (j + 1)))) ((nI_add _ _).trans (congrArg nI (by show _ = coN (M 151) j + 4 + 2 * pkN (M 151) (coN (M 151) j); omega))) ?_
                        refine lv_istore (lv' := [(4, .int (nI (coN (M 151) (j + 1)))), (5, .int (nI 0)), (6, .int (nI j)), (3, .int (nI (coN (M 151) (k + 1)))), (0, .ref (ad 137)), (1, .int (nI (coN (M 151) k))), (2, .int (nI k))]) hx hb dX6_check_159 hl (by decide) rfl (fun ls hl => ?_)
                        refine lv_iinc (v := (nI (j + 1))) (lv' := [(6, .int (nI (j + 1))), (4, .int (nI (coN (M 151) (j + 1)))), (5, .int (nI 0)), (3, .int (nI (coN (M 151) (k + 1)))), (0, .ref (ad 137)), (1, .int (nI (coN (M 151) k))), (2, .int (nI k))]) hx hb dX6_check_161 hl (k := 2) rfl (nI_1 _) (by decide) rfl (fun ls hl => ?_)
                        refine lv_goto (tgt := 97) hx hb dX6_check_164 (by decide) ?_
                        exact ih97 _ (j + 1, (nI 0)) _ (by omega) ⟨rfl, ⟨by omega, bP_0 (fun h => by obtain ⟨q, hq, hq2⟩ := h; rcases Nat.lt_or_ge q j with h9 | h9 <;> first | exact hy_f ⟨q, h9, hq2⟩ | (rw [show q = j by omega] at hq2; exact c_135 hq2))⟩, (lv_sub hl [0, 2, 1, 3, 4, 5, 6] rfl)⟩
                      · refine lv_iconst (v := (nI 1)) hx hb dX6_check_138 (by decide) ?_
                        refine lv_goto (tgt := 143) hx hb dX6_check_139 (by decide) ?_
                        refine lv_istore (lv' := [(5, .int (nI 1)), (6, .int (nI j)), (4, .int (nI (coN (M 151) j))), (3, .int (nI (coN (M 151) (k + 1)))), (0, .ref (ad 137)), (1, .int (nI (coN (M 151) k))), (2, .int (nI k))]) hx hb dX6_check_143 hl (by decide) rfl (fun ls hl => ?_)
                        refine lv_iload hx hb dX6_check_145 (lv_at hl 2 rfl) ?_
                        refine lv_iconst (v := (nI 4)) hx hb dX6_check_147 (by decide) ?_
                        refine lv_iconst (v := (nI 2)) hx hb dX6_check_148 (by decide) ?_
                        refine lv_aload_n hx hb dX6_check_149 rfl (lv_at hl 4 rfl) ?_
                        refine va_get (D := D) (ci := 5) (v := .ref (ad 151)) (C := RX6) (T := TX6) (N := 27) hx hb hts hin_RX6 hown hE.1 hP 137 (wd_at (M := u_84) (show 137 < n by omega) ((g_137 cy ad) _)) rfl 19 (by decide) hf54 (fun _ h9 => h9) rfl dX6_check_150 ?_
                        refine lv_iload hx hb dX6_check_153 (lv_at hl 2 rfl) ?_
                        refine wr_ald (cy := cy) (ad := ad) (ex := []) hx hb hE.1 hP 151 (show 151 < n by omega) ((g_151 cy ad) _) (coN (M 151) j) rfl (by omega) (by decide) dX6_check_155 ?_
                        refine wr_top (y := ((st M 137 0 (nI 0)) 151 (coN (M 151) j))) (by rw [hsu.1 _ (by decide) (by decide) (by decide)]) ?_
                        refine wr_top (y := (M 151 (coN (M 151) j))) (by rw [st_r _ _ _ (by decide)]) ?_
                        refine lv_imul hx hb dX6_check_156 ?_
                        refine wr_top (y := (nI (2 * pkN (M 151) (coN (M 151) j)))) (xm_vN 2 (by omega)) ?_
                        refine lv_iadd hx hb dX6_check_157 ?_
                        refine wr_top (y := (nI (4 + (2 * pkN (M 151) (coN (M 151) j))))) (nI_add _ _) ?_
                        refine lv_iadd hx hb dX6_check_158 ?_
                        refine wr_top (y := (nI (coN (M 151) (j + 1)))) ((nI_add _ _).trans (congrArg nI (by show _ = coN (M 151) j + 4 + 2 * pkN (M 151) (coN (M 151) j); omega))) ?_
                        refine lv_istore (lv' := [(4, .int (nI (coN (M 151) (j + 1)))), (5, .int (nI 1)), (6, .int (nI j)), (3, .int (nI (coN (M 151) (k + 1)))), (0, .ref (ad 137)), (1, .int (nI (coN (M 151) k))), (2, .int (nI k))]) hx hb dX6_check_159 hl (by decide) rfl (fun ls hl => ?_)
                        refine lv_iinc (v := (nI (j + 1))) (lv' := [(6, .int (nI (j + 1))), (4, .int (nI (coN (M 151) (j + 1)))), (5, .int (nI 1)), (3, .int (nI (coN (M 151) (k + 1)))), (0, .ref (ad 137)), (1, .int (nI (coN (M 151) k))), (2, .int (nI k))]) hx hb dX6_check_161 hl (k := 2) rfl (nI_1 _) (by decide) rfl (fun ls hl => ?_)
                        refine lv_goto (tgt := 97) hx hb dX6_check_164 (by decide) ?_
                        exact ih97 _ (j + 1, (nI 1)) _ (by omega) ⟨rfl, ⟨by omega, bP_1 ⟨j, by omega, c_135⟩⟩, (lv_sub hl [0, 2, 1, 3, 4, 5, 6] rfl)⟩
            · refine lv_istore_n (lv' := [(3, .int (-1)), (2, .int (nI k)), (0, .ref (ad 137)), (1, .int (nI (coN (M 151) k)))]) hx hb dX6_check_87 rfl hl (by decide) rfl (fun ls hl => ?_)
              refine lv_iconst (v := (nI 2)) hx hb dX6_check_88 (by decide) ?_
              refine lv_istore (lv' := [(4, .int (nI 2)), (3, .int (-1)), (2, .int (nI k)), (0, .ref (ad 137)), (1, .int (nI (coN (M 151) k)))]) hx hb dX6_check_89 hl (by decide) rfl (fun ls hl => ?_)
              refine lv_iconst (v := (nI 0)) hx hb dX6_check_91 (by decide) ?_
              refine lv_istore (lv' := [(5, .int (nI 0)), (4, .int (nI 2)), (3, .int (-1)), (2, .int (nI k)), (0, .ref (ad 137)), (1, .int (nI (coN (M 151) k)))]) hx hb dX6_check_92 hl (by decide) rfl (fun ls hl => ?_)
              refine lv_iconst (v := (nI 0)) hx hb dX6_check_94 (by decide) ?_
              refine lv_istore (lv' := [(6, .int (nI 0)), (5, .int (nI 0)), (4, .int (nI 2)), (3, .int (-1)), (2, .int (nI k)), (0, .ref (ad 137)), (1, .int (nI (coN (M 151) k)))]) hx hb dX6_check_95 hl (by decide) rfl (fun ls hl => ?_)
              refine lv_iload hx hb dX6_check_97 (lv_at hl 0 rfl) ?_
              refine lv_iload_n hx hb dX6_check_99 rfl (lv_at hl 4 rfl) ?_
              refine lv_icmp_ge (tgt := 167) hx hb dX6_check_100 (by decide) (fun c_100 => ?_) (fun c_100 => ?_)
              · have c_100 := (nI_leI (by omega) (by omega)).mp c_100
                refine lv_iload_n hx hb dX6_check_167 rfl (lv_at hl 3 rfl) ?_
                refine lv_if_lt (tgt := 176) hx hb dX6_check_168 (by decide) (fun c_168 => ?_) (fun c_168 => ?_)
                · refine lv_aload_n hx hb dX6_check_176 rfl (lv_at hl 5 rfl) ?_
                  refine lv_iconst (v := (nI 1)) hx hb dX6_check_177 (by decide) ?_
                  refine wr_put (cy := cy) (ad := ad) (ex := []) (ci := 5) (C := RX6) (T := TX6) (N := 27) (ty := .int) hx hb hts hin_RX6 tyX6 tyX6_ok nmX6 hown hE.1 hP hD hS 137 (show 137 < n by omega) ((g_137 cy ad) _) rfl 0 (by decide) hf63 (fun _ h9 => h9) rfl (by decide +kernel) rfl rfl (by simp) (((g_137 cy ad) _).trans (by simp [st_at])) dX6_check_178 (fun H locs hP hS => ?_)
                  refine lv_iconst (v := (nI 0)) hx hb dX6_check_181 (by decide) ?_
                  exact W.iret (v := (nI 0)) hx hb hr (fun t ht hW => ⟨⟨(nI 0), (st u_84 137 0 (nI 1)), rfl, Or.inr ⟨fun h => hno (h.2.2.2.1 k (by omega)).1, sc_th hsu⟩, (by show va_P D vwCl _ t.heap; rw [ht]; exact hP)⟩, hS.F ht⟩) hS.2.2 dX6_check_182
                · exact absurd (by decide : (-1 : Int32) < 0) c_168
              · have c_100 := mt (nI_leI (by omega) (by omega)).mpr c_100
                refine lv_iload_n hx hb dX6_check_103 rfl (lv_at hl 3 rfl) ?_
                refine lv_if_le (tgt := 167) hx hb dX6_check_104 (by decide) (fun c_104 => ?_) (fun c_104 => ?_)
                · refine lv_iload_n hx hb dX6_check_167 rfl (lv_at hl 3 rfl) ?_
                  refine lv_if_lt (tgt := 176) hx hb dX6_check_168 (by decide) (fun c_168 => ?_) (fun c_168 => ?_)
                  · refine lv_aload_n hx hb dX6_check_176 rfl (lv_at hl 5 rfl) ?_
                    refine lv_iconst (v := (nI 1)) hx hb dX6_check_177 (by decide) ?_
                    refine wr_put (cy := cy) (ad := ad) (ex := []) (ci := 5) (C := RX6) (T := TX6) (N := 27) (ty := .int) hx hb hts hin_RX6 tyX6 tyX6_ok nmX6 hown hE.1 hP hD hS 137 (show 137 < n by omega) ((g_137 cy ad) _) rfl 0 (by decide) hf63 (fun _ h9 => h9) rfl (by decide +kernel) rfl rfl (by simp) (((g_137 cy ad) _).trans (by simp [st_at])) dX6_check_178 (fun H locs hP hS => ?_)
                    refine lv_iconst (v := (nI 0)) hx hb dX6_check_181 (by decide) ?_
                    exact W.iret (v := (nI 0)) hx hb hr (fun t ht hW => ⟨⟨(nI 0), (st u_84 137 0 (nI 1)), rfl, Or.inr ⟨fun h => hno (h.2.2.2.1 k (by omega)).1, sc_th hsu⟩, (by show va_P D vwCl _ t.heap; rw [ht]; exact hP)⟩, hS.F ht⟩) hS.2.2 dX6_check_182
                  · exact absurd (by decide : (-1 : Int32) < 0) c_168
                · exact absurd (by decide : (-1 : Int32) ≤ 0) c_104
        · exact absurd c_41 (by decide)
      · have c_26 := mt (o_ge (by omega) _).mpr c_26
        refine lv_iconst (v := (nI 1)) hx hb dX6_check_29 (by decide) ?_
        refine lv_goto (tgt := 34) hx hb dX6_check_30 (by decide) ?_
        refine wr_put (cy := cy) (ad := ad) (ex := []) (ci := 5) (C := RX6) (T := TX6) (N := 27) (ty := .int) hx hb hts hin_RX6 tyX6 tyX6_ok nmX6 hown hE.1 hP hD hS 137 (show 137 < n by omega) ((g_137 cy ad) _) rfl 0 (by decide) hf63 (fun _ h9 => h9) rfl (by decide +kernel) rfl rfl (by simp) (((g_137 cy ad) _).trans (by simp [st_at])) dX6_check_34 (fun H locs hP hS => ?_)
        refine lv_aload_n hx hb dX6_check_37 rfl (lv_at hl 0 rfl) ?_
        refine va_get (D := D) (ci := 5) (v := .int ((st M 137 0 (nI 1)) 137 0)) (C := RX6) (T := TX6) (N := 27) hx hb hts hin_RX6 hown hE.1 hP 137 (wd_at (M := (st M 137 0 (nI 1))) (show 137 < n by omega) ((g_137 cy ad) _)) rfl 0 (by decide) hf63 (fun _ h9 => h9) rfl dX6_check_38 ?_
        refine wr_top (y := (nI 1)) (st_s _ _ _ _) ?_
        refine lv_if_eq (tgt := 46) hx hb dX6_check_41 (by decide) (fun c_41 => ?_) (fun c_41 => ?_)
        · exact absurd c_41 (by decide)
        · have c_41 := mt (o_eq0 _).mpr c_41
          rw [nI_toInt (by omega)] at c_41
          refine lv_iconst (v := (nI 0)) hx hb dX6_check_44 (by decide) ?_
          exact W.iret (v := (nI 0)) hx hb hr (fun t ht hW => ⟨⟨(nI 0), (st M 137 0 (nI 1)), rfl, Or.inr ⟨fun h => by have := h.1; have := h.2.1; have := h.2.2.1; omega, sc_rf _⟩, (by show va_P D vwCl _ t.heap; rw [ht]; exact hP)⟩, hS.F ht⟩) hS.2.2 dX6_check_45
