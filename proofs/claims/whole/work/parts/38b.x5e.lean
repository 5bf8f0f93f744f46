set_option maxHeartbeats 4000000 in
set_option maxRecDepth 100000 in
/-- readKeys -/
theorem kX5_readKeys (l : Launch) {D : va_G} {cy ad : Nat → Nat} {n : Nat} {M : Mm} {A : Nat → Prop} (hD : ∀ M, va_D A (wd cy ad n M ++ [])) (hn : 137 ≤ n) {a0 z : Nat} (hz6 : z ≤ 6) (hb0 : a0 + z ≤ 200) : Met l yX5_readKeys wsX5_readKeys ({ frames := 2, cells := 0, slots := 0, locals := 44 }) (va_Pc [.ref (ad 0), .int (nI a0), .int (nI (a0 + z))] (RW D cy (wd cy ad n M ++ []) A)) (va_Qi (S := Mm) (fun r u => bP (∀ j, j < z → eltN (vN (M 7 (a0 + j))) = true ∧ ∀ q, q < j → M 7 (a0 + q) ≠ M 7 (a0 + j)) r ∧ (∀ a, a ≠ 8 → a ≠ 9 → u a = M a) ∧ (r = 1 → u 8 1 = nI z ∧ ∀ j, j < z → u (8 + 1) j = M 7 (a0 + j))) (fun u t => va_P D vwCl (wd cy ad n u ++ []) t.heap) A) 0 0 A := by
  refine Met.ofW (cc := cX5_readKeys) (maxL := 4) (ret := (some .boolean)) (by decide +kernel) rfl ?_
  intro p e s m args below meth c s₁ B hml hv
  obtain ⟨rfl, hP, hE, hA⟩ := hv
  have hx := B.exec
  have hb := B.bytes
  have hr := B.returns
  have hts := atoms_spec (ws := wsX5_readKeys) B.pre
  have hown : s.vm.findClass RX5 = some m.cls := findClass_of_methodNamed B.named
  have hlocks := B.notSynchronized
  have hf42 : (Cond.fieldLink RX5 42 "RingPetition" "bundled" "[I").before #[.ref (ad 0), .int (nI a0), .int (nI (a0 + z))] s = true := hts _ (by decide +kernel)
  have hf49 : (Cond.fieldLink RX5 49 "RingPetition" "readRing" "LRingPetition$KeyRow;").before #[.ref (ad 0), .int (nI a0), .int (nI (a0 + z))] s = true := hts _ (by decide +kernel)
  have hf75 : (Cond.fieldLinkNest RX5 75 "RingPetition$KeyRow" "size" "I" "RingPetition").before #[.ref (ad 0), .int (nI a0), .int (nI (a0 + z))] s = true := va_Nw.use rfl (hE.2 _ (List.mem_of_getElem? (i := 3) rfl))
  have hin_RX1 : ∀ w ∈ u_ws RX1 TX1 2, w ∈ wsX5_readKeys := by decide +kernel
  have hin_RX5 : ∀ w ∈ u_ws RX5 TX5 11, w ∈ wsX5_readKeys := by decide +kernel
  have hS : va_S A s.heap s.heap [] := va_S.rf
  have hl := lv_entry ([.ref (ad 0), .int (nI a0), .int (nI (a0 + z))]) (n := 4) (Nat.le_of_ble_eq_true rfl)
  rw [lg_entry_eq]
  generalize (lg_sl ([.ref (ad 0), .int (nI a0), .int (nI (a0 + z))]) ++ List.replicate (4 - (lg_sl ([.ref (ad 0), .int (nI a0), .int (nI (a0 + z))])).length) Slot.unset).toArray = ls at hl ⊢
  have hl : lv_has ls 4 [(0, .ref (ad 0)), (1, .int (nI a0)), (2, .int (nI (a0 + z)))] := hl
  refine lv_aload_n hx hb dX5_readKeys_0 rfl (lv_at hl 0 rfl) ?_
  refine va_get (D := D) (ci := 4) (v := .ref (ad 8)) (C := RX5) (T := TX5) (N := 11) hx hb hts hin_RX5 hown hE.1 hP 0 (wd_at (M := M) (show 0 < n by omega) ((g_0 cy ad) _)) rfl 8 (by decide) hf49 (fun _ h9 => h9) rfl dX5_readKeys_1 ?_
  refine lv_iconst (v := (nI 0)) hx hb dX5_readKeys_4 (by decide) ?_
  refine wr_putN (cy := cy) (ad := ad) (ex := []) (ci := 1) (C := RX1) (T := TX1) (N := 2) (ty := .int) hx hb hts hin_RX1 tyX1 tyX1_ok nmX1 hown hE.1 hP hD hS 8 (show 8 < n by omega) ((kr_8 cy ad).1 _) rfl 1 (by decide) hf75 (fun _ h9 => h9) rfl (by decide +kernel) rfl rfl (by simp) (((kr_8 cy ad).1 _).trans (by simp [st_at])) dX5_readKeys_5 (fun H locs hP hS => ?_)
  refine lv_iload_n hx hb dX5_readKeys_8 rfl (lv_at hl 1 rfl) ?_
  refine lv_istore_n (lv' := [(3, .int (nI a0)), (0, .ref (ad 0)), (1, .int (nI a0)), (2, .int (nI (a0 + z)))]) hx hb dX5_readKeys_9 rfl hl (by decide) rfl (fun ls hl => ?_)
  refine wloopW (fun kq (xq : Nat × Mm) H locs ls => match xq with | (i, Mk) => kq = z - i ∧ (i ≤ z ∧ (∀ a, a ≠ 8 → a ≠ 9 → Mk a = M a) ∧ Mk 8 1 = nI i ∧ (∀ j, j < i → Mk (8 + 1) j = M 7 (a0 + j)) ∧ (∀ j, j < i → eltN (vN (M 7 (a0 + j))) = true ∧ ∀ q, q < j → M 7 (a0 + q) ≠ M 7 (a0 + j))) ∧ va_P D vwCl (wd cy ad n Mk ++ []) H ∧ va_S A s.heap H locs ∧ lv_has ls 4 [(3, .int (nI (a0 + i))), (0, .ref (ad 0)), (1, .int (nI a0)), (2, .int (nI (a0 + z)))]) (fun k10 x10 H locs ls h10 ih10 => ?_) _ (0, st M 8 1 (nI 0)) _ _ ls ⟨rfl, ⟨Nat.zero_le _, fun a a8 a9 => st_r _ _ _ a8, st_s _ _ _ _, fun j h => absurd h (Nat.not_lt_zero j), fun j h => absurd h (Nat.not_lt_zero j)⟩, hP, hS, lv_sub hl [0, 1, 2, 3] rfl⟩
  obtain ⟨i, Mk⟩ := x10
  obtain ⟨hk10, hI, hP, hS, hl⟩ := h10
  refine lv_iload_n hx hb dX5_readKeys_10 rfl (lv_at hl 0 rfl) ?_
  refine lv_iload_n hx hb dX5_readKeys_11 rfl (lv_at hl 3 rfl) ?_
  refine lv_icmp_ge (tgt := 64) hx hb dX5_readKeys_12 (by decide) (fun c_12 => ?_) (fun c_12 => ?_)
  · have c_12 := (nI_leI (by omega) (by omega)).mp c_12
    refine lv_iconst (v := (nI 1)) hx hb dX5_readKeys_64 (by decide) ?_
    exact W.zret (v := (nI 1)) hx hb hr rfl (fun t ht hW => ⟨⟨(nI 1), Mk, rfl, ⟨bP_1 (by rw [show z = i by omega]; exact hI.2.2.2.2), hI.2.1, fun _ => ⟨by rw [show z = i by omega]; exact hI.2.2.1, fun j hj => hI.2.2.2.1 j (by omega)⟩⟩, (by show va_P D vwCl _ t.heap; rw [ht]; exact hP)⟩, hS.F ht⟩) hS.2.2 dX5_readKeys_65
  · have c_12 := mt (nI_leI (by omega) (by omega)).mpr c_12
    refine lv_aload_n hx hb dX5_readKeys_15 rfl (lv_at hl 1 rfl) ?_
    refine va_get (D := D) (ci := 4) (v := .ref (ad 7)) (C := RX5) (T := TX5) (N := 11) hx hb hts hin_RX5 hown hE.1 hP 0 (wd_at (M := Mk) (show 0 < n by omega) ((g_0 cy ad) _)) rfl 6 (by decide) hf42 (fun _ h9 => h9) rfl dX5_readKeys_16 ?_
    refine lv_iload_n hx hb dX5_readKeys_19 rfl (lv_at hl 0 rfl) ?_
    refine wr_ald (cy := cy) (ad := ad) (ex := []) hx hb hE.1 hP 7 (show 7 < n by omega) ((g_7 cy ad) _) (a0 + i) rfl (by omega) (by decide) dX5_readKeys_20 ?_
    refine wr_top (y := (M 7 (a0 + i))) (by rw [hI.2.1 _ (by decide) (by decide)]) ?_
    refine vp_callSi (W.runS (As := [.int (M 7 (a0 + i))]) (rest := []) ⟨hx, hb, hml, hown, hts⟩ (kX2_isElementButOne l) (va_cwS 1 hts gX5_readKeys_X2_isElementButOne rfl rfl rfl (by decide +kernel) ⟨Nat.le_of_ble_eq_true rfl, Nat.le_of_ble_eq_true rfl⟩) pu_ps rfl rfl hl.1 rfl (lv_room (Nat.le_of_ble_eq_true rfl)) dX5_readKeys_21 ⟨Nat.le_of_ble_eq_true rfl, Nat.le_of_ble_eq_true rfl⟩) (fun r_21 hr_21 => ?_)
    rcases hr_21 with ⟨hq_21, rfl⟩ | ⟨hq_21, rfl⟩
    · refine lv_if_eq (tgt := 43) hx hb dX5_readKeys_24 (by decide) (fun c_24 => ?_) (fun c_24 => ?_)
      · exact absurd c_24 (by decide)
      · have c_24 := mt (o_eq0 _).mpr c_24
        refine lv_aload_n hx hb dX5_readKeys_27 rfl (lv_at hl 1 rfl) ?_
        refine va_get (D := D) (ci := 4) (v := .ref (ad 8)) (C := RX5) (T := TX5) (N := 11) hx hb hts hin_RX5 hown hE.1 hP 0 (wd_at (M := Mk) (show 0 < n by omega) ((g_0 cy ad) _)) rfl 8 (by decide) hf49 (fun _ h9 => h9) rfl dX5_readKeys_28 ?_
        refine lv_aload_n hx hb dX5_readKeys_31 rfl (lv_at hl 1 rfl) ?_
        refine va_get (D := D) (ci := 4) (v := .ref (ad 7)) (C := RX5) (T := TX5) (N := 11) hx hb hts hin_RX5 hown hE.1 hP 0 (wd_at (M := Mk) (show 0 < n by omega) ((g_0 cy ad) _)) rfl 6 (by decide) hf42 (fun _ h9 => h9) rfl dX5_readKeys_32 ?_
        refine lv_iload_n hx hb dX5_readKeys_35 rfl (lv_at hl 0 rfl) ?_
        refine wr_ald (cy := cy) (ad := ad) (ex := []) hx hb hE.1 hP 7 (show 7 < n by omega) ((g_7 cy ad) _) (a0 + i) rfl (by omega) (by decide) dX5_readKeys_36 ?_
        refine wr_top (y := (M 7 (a0 + i))) (by rw [hI.2.1 _ (by decide) (by decide)]) ?_
        refine vp_callSi (W.runV (As := [.int (M 7 (a0 + i))]) (rest := []) ⟨hx, hb, hml, hown, hts⟩ (kX1_has l (kr_8 cy ad) (by omega) (by omega) hI.2.2.1 (by decide) (by omega)) (cwV 1 hts gX5_readKeys_X1_has rfl rfl rfl (by decide +kernel) ⟨Nat.le_of_ble_eq_true rfl, Nat.le_of_ble_eq_true rfl⟩) (ro_pv (ci := 1) (q := (RX1, TX1, 2)) hE hP rfl (wd_at (M := Mk) (show 8 < n by omega) ((kr_8 cy ad).1 _))) rfl rfl hl.1 rfl (lv_room (Nat.le_of_ble_eq_true rfl)) dX5_readKeys_37 ⟨Nat.le_of_ble_eq_true rfl, Nat.le_of_ble_eq_true rfl⟩) (fun r_37 hr_37 => ?_)
        rcases hr_37 with ⟨hq_37, rfl⟩ | ⟨hq_37, rfl⟩
        · refine lv_if_eq (tgt := 45) hx hb dX5_readKeys_40 (by decide) (fun c_40 => ?_) (fun c_40 => ?_)
          · exact absurd c_40 (by decide)
          · have c_40 := mt (o_eq0 _).mpr c_40
            refine lv_iconst (v := (nI 0)) hx hb dX5_readKeys_43 (by decide) ?_
            exact W.zret (v := (nI 0)) hx hb hr rfl (fun t ht hW => ⟨⟨(nI 0), Mk, rfl, ⟨bP_0 (fun h => by obtain ⟨q, hq, e9⟩ := hq_37; exact (h i (by omega)).2 q hq ((hI.2.2.2.1 q hq).symm.trans e9)), hI.2.1, fun h => absurd h (by decide)⟩, (by show va_P D vwCl _ t.heap; rw [ht]; exact hP)⟩, hS.F ht⟩) hS.2.2 dX5_readKeys_44
        · refine lv_if_eq (tgt := 45) hx hb dX5_readKeys_40 (by decide) (fun c_40 => ?_) (fun c_40 => ?_)
          · have c_40 := (o_eq0 _).mp c_40
            refine lv_aload_n hx hb dX5_readKeys_45 rfl (lv_at hl 1 rfl) ?_
            refine va_get (D := D) (ci := 4) (v := .ref (ad 8)) (C := RX5) (T := TX5) (N := 11) hx hb hts hin_RX5 hown hE.1 hP 0 (wd_at (M := Mk) (show 0 < n by omega) ((g_0 cy ad) _)) rfl 8 (by decide) hf49 (fun _ h9 => h9) rfl dX5_readKeys_46 ?_
            refine lv_aload_n hx hb dX5_readKeys_49 rfl (lv_at hl 1 rfl) ?_
            refine va_get (D := D) (ci := 4) (v := .ref (ad 7)) (C := RX5) (T := TX5) (N := 11) hx hb hts hin_RX5 hown hE.1 hP 0 (wd_at (M := Mk) (show 0 < n by omega) ((g_0 cy ad) _)) rfl 6 (by decide) hf42 (fun _ h9 => h9) rfl dX5_readKeys_50 ?_
            refine lv_iload_n hx hb dX5_readKeys_53 rfl (lv_at hl 0 rfl) ?_
            refine wr_ald (cy := cy) (ad := ad) (ex := []) hx hb hE.1 hP 7 (show 7 < n by omega) ((g_7 cy ad) _) (a0 + i) rfl (by omega) (by decide) dX5_readKeys_54 ?_
            refine wr_top (y := (M 7 (a0 + i))) (by rw [hI.2.1 _ (by decide) (by decide)]) ?_
            refine va_callv (va_runV (As := [.int (M 7 (a0 + i))]) (rest := []) ⟨hx, hb, hml, hown, hts⟩ (kX1_add l hD (kr_8 cy ad) (by omega) (by omega) hI.2.2.1 (by decide) (by omega)) (cwV 1 hts gX5_readKeys_X1_add rfl rfl rfl (by decide +kernel) ⟨Nat.le_of_ble_eq_true rfl, Nat.le_of_ble_eq_true rfl⟩) (rw_pv (ci := 1) (q := (RX1, TX1, 2)) hE hP hS hA rfl (wd_at (M := Mk) (show 8 < n by omega) ((kr_8 cy ad).1 _))) rfl rfl hl.1 rfl (lv_room (Nat.le_of_ble_eq_true rfl)) dX5_readKeys_55 ⟨Nat.le_of_ble_eq_true rfl, Nat.le_of_ble_eq_true rfl⟩) hS (fun q _ h => h) (fun q h => h) (fun u_55 t H1 locs ht hvm hr_55 hB_55 hz1 hk1 hS => ?_)
            have hP : va_P D vwCl (wd cy ad n u_55 ++ []) H1 := by rw [← ht]; exact hB_55
            clear hB_55 ht hvm hz1 hk1
            generalize H1 = H at hP hS ⊢
            subst hr_55
            refine lv_iinc (v := (nI (a0 + (i + 1)))) (lv' := [(3, .int (nI (a0 + (i + 1)))), (0, .ref (ad 0)), (1, .int (nI a0)), (2, .int (nI (a0 + z)))]) hx hb dX5_readKeys_58 hl (k := 0) rfl (nI_1 _) (by decide) rfl (fun ls hl => ?_)
            refine lv_goto (tgt := 10) hx hb dX5_readKeys_61 (by decide) ?_
            exact ih10 _ (i + 1, (st (st Mk (8 + 1) i (M 7 (a0 + i))) 8 1 (nI (i + 1)))) _ _ _ (by omega) ⟨rfl, ⟨by omega, fun a a8 a9 => by rw [st_r _ _ _ a8, st_r _ _ _ a9]; exact hI.2.1 a a8 a9, st_s _ _ _ _, fun j hj => by rw [st_r _ _ _ (show 8 + 1 ≠ 8 by decide)]; (rcases Nat.lt_or_ge j i with h | h <;> first | (rw [st_c _ _ _ (show j ≠ i by omega)]; exact hI.2.2.2.1 j h) | (rw [show j = i by omega, st_s])), fun j hj => by rcases Nat.lt_or_ge j i with h | h <;> first | exact hI.2.2.2.2 j h | (rw [show j = i by omega]; exact ⟨hq_21, fun q hq e9 => hq_37 ⟨q, hq, (hI.2.2.2.1 q hq).trans e9⟩⟩)⟩, hP, hS, (lv_sub hl [0, 1, 2, 3] rfl)⟩
          · exact absurd c_40 (by decide)
    · refine lv_if_eq (tgt := 43) hx hb dX5_readKeys_24 (by decide) (fun c_24 => ?_) (fun c_24 => ?_)
      · have c_24 := (o_eq0 _).mp c_24
        refine lv_iconst (v := (nI 0)) hx hb dX5_readKeys_43 (by decide) ?_
        exact W.zret (v := (nI 0)) hx hb hr rfl (fun t ht hW => ⟨⟨(nI 0), Mk, rfl, ⟨bP_0 (fun h => hq_21 (h i (by omega)).1), hI.2.1, fun h => absurd h (by decide)⟩, (by show va_P D vwCl _ t.heap; rw [ht]; exact hP)⟩, hS.F ht⟩) hS.2.2 dX5_readKeys_44
      · exact absurd c_24 (by decide)
