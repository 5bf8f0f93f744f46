set_option maxHeartbeats 4000000 in
set_option maxRecDepth 100000 in
/-- endOfGoodSignature -/
theorem kX5_endOfGoodSignature (l : Launch) {D : va_G} {cy ad : Nat → Nat} {n : Nat} {M : Mm} {A : Nat → Prop} (hD : ∀ M, va_D A (wd cy ad n M ++ [])) (hn : 137 ≤ n) {a0 b0 bB : Nat} (hb0 : M 0 7 = nI b0) (hb1 : b0 ≤ 200) (ha0 : a0 ≤ 200) (hB : bB < 2027) : Met l yX5_endOfGoodSignature wsX5_endOfGoodSignature ({ frames := 4, cells := 1, slots := 4, locals := 97 }) (va_Pc [.ref (ad 0), .int (nI a0), .int (nI bB)] (RW D cy (wd cy ad n M ++ []) A)) (va_Qi (S := Mm) (fun r u => ((okS (M 7) b0 (M 7 0) bB a0 ∧ r = nI (a0 + 4 + 2 * pkN (M 7) a0) ∧ u (10 + 1) 1 = M 7 (a0 + 2 + pkN (M 7) a0 + 1)) ∨ (¬ okS (M 7) b0 (M 7 0) bB a0 ∧ r = (-1))) ∧ scQ M u) (fun u t => va_P D vwCl (wd cy ad n u ++ []) t.heap) A) 1 4 A := by
  refine Met.ofW (cc := cX5_endOfGoodSignature) (maxL := 8) (ret := (some .int)) (by decide +kernel) rfl ?_
  intro p e s m args below meth c s₁ B hml hv
  obtain ⟨rfl, hP, hE, hA⟩ := hv
  have hx := B.exec
  have hb := B.bytes
  have hr := B.returns
  have hts := atoms_spec (ws := wsX5_endOfGoodSignature) B.pre
  have hown : s.vm.findClass RX5 = some m.cls := findClass_of_methodNamed B.named
  have hlocks := B.notSynchronized
  have hf141 : (Cond.fieldLinkNest RX5 141 "RingPetition$Signature" "numbers" "[I" "RingPetition").before #[.ref (ad 0), .int (nI a0), .int (nI bB)] s = true := va_Nw.use rfl (hE.2 _ (List.mem_of_getElem? (i := 7) rfl))
  have hf230 : (Cond.fieldLinkNest RX5 230 "RingPetition$Signature" "size" "I" "RingPetition").before #[.ref (ad 0), .int (nI a0), .int (nI bB)] s = true := va_Nw.use rfl (hE.2 _ (List.mem_of_getElem? (i := 9) rfl))
  have hf42 : (Cond.fieldLink RX5 42 "RingPetition" "bundled" "[I").before #[.ref (ad 0), .int (nI a0), .int (nI bB)] s = true := hts _ (by decide +kernel)
  have hf46 : (Cond.fieldLink RX5 46 "RingPetition" "bundledCount" "I").before #[.ref (ad 0), .int (nI a0), .int (nI bB)] s = true := hts _ (by decide +kernel)
  have hf49 : (Cond.fieldLink RX5 49 "RingPetition" "readRing" "LRingPetition$KeyRow;").before #[.ref (ad 0), .int (nI a0), .int (nI bB)] s = true := hts _ (by decide +kernel)
  have hf52 : (Cond.fieldLink RX5 52 "RingPetition" "readSignature" "LRingPetition$Signature;").before #[.ref (ad 0), .int (nI a0), .int (nI bB)] s = true := hts _ (by decide +kernel)
  have hin_RX0 : ∀ w ∈ u_ws RX0 TX0 4, w ∈ wsX5_endOfGoodSignature := by decide +kernel
  have hin_RX3 : ∀ w ∈ u_ws RX3 TX3 4, w ∈ wsX5_endOfGoodSignature := by decide +kernel
  have hin_RX5 : ∀ w ∈ u_ws RX5 TX5 11, w ∈ wsX5_endOfGoodSignature := by decide +kernel
  have hS : va_S A s.heap s.heap [] := va_S.rf
  have hl := lv_entry ([.ref (ad 0), .int (nI a0), .int (nI bB)]) (n := 8) (Nat.le_of_ble_eq_true rfl)
  rw [lg_entry_eq]
  generalize (lg_sl ([.ref (ad 0), .int (nI a0), .int (nI bB)]) ++ List.replicate (8 - (lg_sl ([.ref (ad 0), .int (nI a0), .int (nI bB)])).length) Slot.unset).toArray = ls at hl ⊢
  have hl : lv_has ls 8 [(0, .ref (ad 0)), (1, .int (nI a0)), (2, .int (nI bB))] := hl
  refine lv_iload_n hx hb dX5_endOfGoodSignature_0 rfl (lv_at hl 1 rfl) ?_
  refine lv_aload_n hx hb dX5_endOfGoodSignature_1 rfl (lv_at hl 0 rfl) ?_
  refine va_get (D := D) (ci := 4) (v := .int (M 0 7)) (C := RX5) (T := TX5) (N := 11) hx hb hts hin_RX5 hown hE.1 hP 0 (wd_at (M := M) (show 0 < n by omega) ((g_0 cy ad) _)) rfl 7 (by decide) hf46 (fun _ h9 => h9) rfl dX5_endOfGoodSignature_2 ?_
  refine wr_top (y := (nI b0)) hb0 ?_
  refine lv_icmp_lt (tgt := 10) hx hb dX5_endOfGoodSignature_5 (by decide) (fun c_5 => ?_) (fun c_5 => ?_)
  · have c_5 := (nI_ltI (by omega) (by omega)).mp c_5
    refine lv_aload_n hx hb dX5_endOfGoodSignature_10 rfl (lv_at hl 0 rfl) ?_
    refine va_get (D := D) (ci := 4) (v := .ref (ad 7)) (C := RX5) (T := TX5) (N := 11) hx hb hts hin_RX5 hown hE.1 hP 0 (wd_at (M := M) (show 0 < n by omega) ((g_0 cy ad) _)) rfl 6 (by decide) hf42 (fun _ h9 => h9) rfl dX5_endOfGoodSignature_11 ?_
    refine lv_iload_n hx hb dX5_endOfGoodSignature_14 rfl (lv_at hl 1 rfl) ?_
    refine wr_ald (cy := cy) (ad := ad) (ex := []) hx hb hE.1 hP 7 (show 7 < n by omega) ((g_7 cy ad) _) a0 rfl (by omega) (by decide) dX5_endOfGoodSignature_15 ?_
    refine lv_istore_n (lv' := [(3, .int (M 7 a0)), (0, .ref (ad 0)), (1, .int (nI a0)), (2, .int (nI bB))]) hx hb dX5_endOfGoodSignature_16 rfl hl (by decide) rfl (fun ls hl => ?_)
    refine lv_iload_n hx hb dX5_endOfGoodSignature_17 rfl (lv_at hl 0 rfl) ?_
    refine lv_iconst (v := (nI 2)) hx hb dX5_endOfGoodSignature_18 (by decide) ?_
    refine lv_icmp_lt (tgt := 28) hx hb dX5_endOfGoodSignature_19 (by decide) (fun c_19 => ?_) (fun c_19 => ?_)
    · have c_19 := (o_gt (by omega) _).mp c_19
      refine lv_iconst (v := (-1)) hx hb dX5_endOfGoodSignature_28 (by decide) ?_
      refine W.widen (k := 1) (n := 4) (Nat.le_of_ble_eq_true rfl) (Nat.le_of_ble_eq_true rfl) ?_
      exact W.iret (v := (-1)) hx hb hr (fun t ht hW => ⟨⟨(-1), M, rfl, ⟨Or.inr ⟨fun h => by have := h.2.1; have := h.2.2.1; omega, rfl⟩, fun a _ _ _ _ => rfl⟩, (by show va_P D vwCl _ t.heap; rw [ht]; exact hP)⟩, hS.F ht⟩) hS.2.2 dX5_endOfGoodSignature_29
    · have c_19 := mt (o_gt (by omega) _).mpr c_19
      refine lv_iload_n hx hb dX5_endOfGoodSignature_22 rfl (lv_at hl 0 rfl) ?_
      refine lv_bipush (v := (nI 6)) hx hb dX5_endOfGoodSignature_23 (by decide) ?_
      refine lv_icmp_le (tgt := 30) hx hb dX5_endOfGoodSignature_25 (by decide) (fun c_25 => ?_) (fun c_25 => ?_)
      · have c_25 := (o_ge (by omega) _).mp c_25
        have hz2 : M 7 a0 = nI (pkN (M 7) a0) := x_vN (by omega)
        have hz9 : ((pkN (M 7) a0 : Nat) : Int) = (M 7 a0).toInt := by show ((vN (M 7 a0) : Nat) : Int) = _; rw [vN_toInt]; omega
        rw [hz2] at hl
        refine lv_iload_n hx hb dX5_endOfGoodSignature_30 rfl (lv_at hl 2 rfl) ?_
        refine lv_iconst (v := (nI 1)) hx hb dX5_endOfGoodSignature_31 (by decide) ?_
        refine lv_iadd hx hb dX5_endOfGoodSignature_32 ?_
        refine wr_top (y := (nI (a0 + 1))) (nI_1 _) ?_
        refine lv_iload_n hx hb dX5_endOfGoodSignature_33 rfl (lv_at hl 0 rfl) ?_
        refine lv_iadd hx hb dX5_endOfGoodSignature_34 ?_
        refine wr_top (y := (nI (a0 + 1 + pkN (M 7) a0))) (nI_add _ _) ?_
        refine lv_istore (lv' := [(4, .int (nI (a0 + 1 + pkN (M 7) a0))), (3, .int (nI (pkN (M 7) a0))), (0, .ref (ad 0)), (1, .int (nI a0)), (2, .int (nI bB))]) hx hb dX5_endOfGoodSignature_35 hl (by decide) rfl (fun ls hl => ?_)
        refine lv_iload hx hb dX5_endOfGoodSignature_37 (lv_at hl 0 rfl) ?_
        refine lv_iconst (v := (nI 1)) hx hb dX5_endOfGoodSignature_39 (by decide) ?_
        refine lv_iadd hx hb dX5_endOfGoodSignature_40 ?_
        refine wr_top (y := (nI (a0 + 2 + pkN (M 7) a0))) ((nI_1 _).trans (congrArg nI (by omega))) ?_
        refine lv_istore (lv' := [(5, .int (nI (a0 + 2 + pkN (M 7) a0))), (4, .int (nI (a0 + 1 + pkN (M 7) a0))), (3, .int (nI (pkN (M 7) a0))), (0, .ref (ad 0)), (1, .int (nI a0)), (2, .int (nI bB))]) hx hb dX5_endOfGoodSignature_41 hl (by decide) rfl (fun ls hl => ?_)
        refine lv_iload hx hb dX5_endOfGoodSignature_43 (lv_at hl 0 rfl) ?_
        refine lv_iconst (v := (nI 2)) hx hb dX5_endOfGoodSignature_45 (by decide) ?_
        refine lv_iadd hx hb dX5_endOfGoodSignature_46 ?_
        refine wr_top (y := (nI ((a0 + 2 + pkN (M 7) a0) + 2))) (nI_add _ _) ?_
        refine lv_iload_n hx hb dX5_endOfGoodSignature_47 rfl (lv_at hl 2 rfl) ?_
        refine lv_iadd hx hb dX5_endOfGoodSignature_48 ?_
        refine wr_top (y := (nI (a0 + 4 + 2 * pkN (M 7) a0))) ((nI_add _ _).trans (congrArg nI (by omega))) ?_
        refine lv_istore (lv' := [(6, .int (nI (a0 + 4 + 2 * pkN (M 7) a0))), (5, .int (nI (a0 + 2 + pkN (M 7) a0))), (4, .int (nI (a0 + 1 + pkN (M 7) a0))), (3, .int (nI (pkN (M 7) a0))), (0, .ref (ad 0)), (1, .int (nI a0)), (2, .int (nI bB))]) hx hb dX5_endOfGoodSignature_49 hl (by decide) rfl (fun ls hl => ?_)
        refine lv_iload hx hb dX5_endOfGoodSignature_51 (lv_at hl 0 rfl) ?_
        refine lv_aload_n hx hb dX5_endOfGoodSignature_53 rfl (lv_at hl 4 rfl) ?_
        refine va_get (D := D) (ci := 4) (v := .int (M 0 7)) (C := RX5) (T := TX5) (N := 11) hx hb hts hin_RX5 hown hE.1 hP 0 (wd_at (M := M) (show 0 < n by omega) ((g_0 cy ad) _)) rfl 7 (by decide) hf46 (fun _ h9 => h9) rfl dX5_endOfGoodSignature_54 ?_
        refine wr_top (y := (nI b0)) hb0 ?_
        refine lv_icmp_gt (tgt := 72) hx hb dX5_endOfGoodSignature_57 (by decide) (fun c_57 => ?_) (fun c_57 => ?_)
        · have c_57 := (nI_ltI (by omega) (by omega)).mp c_57
          refine lv_iconst (v := (-1)) hx hb dX5_endOfGoodSignature_72 (by decide) ?_
          refine W.widen (k := 1) (n := 4) (Nat.le_of_ble_eq_true rfl) (Nat.le_of_ble_eq_true rfl) ?_
          exact W.iret (v := (-1)) hx hb hr (fun t ht hW => ⟨⟨(-1), M, rfl, ⟨Or.inr ⟨fun h => by have := h.2.2.2.1; omega, rfl⟩, fun a _ _ _ _ => rfl⟩, (by show va_P D vwCl _ t.heap; rw [ht]; exact hP)⟩, hS.F ht⟩) hS.2.2 dX5_endOfGoodSignature_73
        · have c_57 := mt (nI_ltI (by omega) (by omega)).mpr c_57
          refine lv_aload_n hx hb dX5_endOfGoodSignature_60 rfl (lv_at hl 4 rfl) ?_
          refine lv_iload_n hx hb dX5_endOfGoodSignature_61 rfl (lv_at hl 5 rfl) ?_
          refine lv_iconst (v := (nI 1)) hx hb dX5_endOfGoodSignature_62 (by decide) ?_
          refine lv_iadd hx hb dX5_endOfGoodSignature_63 ?_
          refine wr_top (y := (nI (a0 + 1))) (nI_1 _) ?_
          refine lv_iload hx hb dX5_endOfGoodSignature_64 (lv_at hl 2 rfl) ?_
          have hpk : pkN (M 7) a0 = vN (M 7 a0) := rfl
          refine va_calli (va_runV (As := [.int (nI (a0 + 1)), .int (nI (a0 + 1 + pkN (M 7) a0))]) (rest := []) ⟨hx, hb, hml, hown, hts⟩ (kX5_readKeys l hD hn (a0 := a0 + 1) (z := pkN (M 7) a0) (by omega) (by omega)) (cwV 2 hts gX5_endOfGoodSignature_X5_readKeys rfl rfl rfl (by decide +kernel) ⟨Nat.le_of_ble_eq_true rfl, Nat.le_of_ble_eq_true rfl⟩) (rw_pv (ci := 4) (q := (RX5, TX5, 11)) hE hP hS hA rfl (wd_at (M := M) (show 0 < n by omega) ((g_0 cy ad) _))) rfl rfl hl.1 rfl (lv_room (Nat.le_of_ble_eq_true rfl)) dX5_endOfGoodSignature_66 ⟨Nat.le_of_ble_eq_true rfl, Nat.le_of_ble_eq_true rfl⟩) hS (fun q _ h => h) (fun q h => h) (fun r_66 u_66 t H1 locs ht hvm hr_66 hB_66 hz1 hk1 hS => ?_)
          have hP : va_P D vwCl (wd cy ad n u_66 ++ []) H1 := by rw [← ht]; exact hB_66
          clear hB_66 ht hvm hz1 hk1
          generalize H1 = H at hP hS ⊢
          obtain ⟨hr_66, hf1, hf2⟩ := hr_66
          rcases hr_66 with ⟨hq_66, rfl⟩ | ⟨hq_66, rfl⟩
          · refine lv_if_ne (tgt := 74) hx hb dX5_endOfGoodSignature_69 (by decide) (fun c_69 => ?_) (fun c_69 => ?_)
            · have c_69 := mt (o_eq0 _).mpr c_69
              refine lv_aload_n hx hb dX5_endOfGoodSignature_74 rfl (lv_at hl 4 rfl) ?_
              refine va_get (D := D) (ci := 4) (v := .ref (ad 10)) (C := RX5) (T := TX5) (N := 11) hx hb hts hin_RX5 hown hE.1 hP 0 (wd_at (M := u_66) (show 0 < n by omega) ((g_0 cy ad) _)) rfl 9 (by decide) hf52 (fun _ h9 => h9) rfl dX5_endOfGoodSignature_75 ?_
              refine lv_iload_n hx hb dX5_endOfGoodSignature_78 rfl (lv_at hl 3 rfl) ?_
              have hf3 := hf2 rfl
              refine va_callv (va_runV (As := [.int (nI (pkN (M 7) a0))]) (rest := []) ⟨hx, hb, hml, hown, hts⟩ (kX3_resize l hD (sg_10 cy ad) (by omega) (by omega)) (cwV 1 hts gX5_endOfGoodSignature_X3_resize rfl rfl rfl (by decide +kernel) ⟨Nat.le_of_ble_eq_true rfl, Nat.le_of_ble_eq_true rfl⟩) (rw_pv (ci := 2) (q := (RX3, TX3, 4)) hE hP hS hA rfl (wd_at (M := u_66) (show 10 < n by omega) ((sg_10 cy ad).1 _))) rfl rfl hl.1 rfl (lv_room (Nat.le_of_ble_eq_true rfl)) dX5_endOfGoodSignature_79 ⟨Nat.le_of_ble_eq_true rfl, Nat.le_of_ble_eq_true rfl⟩) hS (fun q _ h => h) (fun q h => h) (fun u_79 t H1 locs ht hvm hr_79 hB_79 hz1 hk1 hS => ?_)
              have hP : va_P D vwCl (wd cy ad n u_79 ++ []) H1 := by rw [← ht]; exact hB_79
              clear hB_79 ht hvm hz1 hk1
              generalize H1 = H at hP hS ⊢
              subst hr_79
              refine lv_iconst (v := (nI 0)) hx hb dX5_endOfGoodSignature_82 (by decide) ?_
              refine lv_istore (lv' := [(7, .int (nI 0)), (6, .int (nI (a0 + 4 + 2 * pkN (M 7) a0))), (5, .int (nI (a0 + 2 + pkN (M 7) a0))), (4, .int (nI (a0 + 1 + pkN (M 7) a0))), (3, .int (nI (pkN (M 7) a0))), (0, .ref (ad 0)), (1, .int (nI a0)), (2, .int (nI bB))]) hx hb dX5_endOfGoodSignature_83 hl (by decide) rfl (fun ls hl => ?_)
              refine wloopW (fun kq (xq : Nat × Mm) H locs ls => match xq with | (i, Mk) => kq = 2 + pkN (M 7) a0 - i ∧ (i ≤ 2 + pkN (M 7) a0 ∧ (∀ a, a ≠ 8 → a ≠ 9 → a ≠ 10 → a ≠ 11 → Mk a = M a) ∧ Mk 10 1 = nI (2 + pkN (M 7) a0) ∧ Mk 8 1 = nI (pkN (M 7) a0) ∧ (∀ j, j < pkN (M 7) a0 → Mk (8 + 1) j = M 7 (a0 + 1 + j)) ∧ (∀ j, j < i → Mk (10 + 1) j = M 7 (a0 + 2 + pkN (M 7) a0 + j))) ∧ va_P D vwCl (wd cy ad n Mk ++ []) H ∧ va_S A s.heap H locs ∧ lv_has ls 8 [(7, .int (nI i)), (0, .ref (ad 0)), (1, .int (nI a0)), (2, .int (nI bB)), (3, .int (nI (pkN (M 7) a0))), (4, .int (nI (a0 + 1 + pkN (M 7) a0))), (5, .int (nI (a0 + 2 + pkN (M 7) a0))), (6, .int (nI (a0 + 4 + 2 * pkN (M 7) a0)))]) (fun k85 x85 H locs ls h85 ih85 => ?_) _ (0, st u_66 10 1 (nI (2 + pkN (M 7) a0))) _ _ ls ⟨rfl, ⟨Nat.zero_le _, fun a a8 a9 a10 a11 => by rw [st_r _ _ _ a10]; exact hf1 a a8 a9, st_s _ _ _ _, by rw [st_r _ _ _ (by decide)]; exact hf3.1, fun j hj => by rw [st_r _ _ _ (by decide)]; exact hf3.2 j hj, fun j h => absurd h (Nat.not_lt_zero j)⟩, hP, hS, lv_sub hl [0, 5, 6, 7, 4, 3, 2, 1] rfl⟩
              obtain ⟨i, Mk⟩ := x85
              obtain ⟨hk85, hI, hP, hS, hl⟩ := h85
              refine lv_iload hx hb dX5_endOfGoodSignature_85 (lv_at hl 0 rfl) ?_
              refine lv_aload_n hx hb dX5_endOfGoodSignature_87 rfl (lv_at hl 1 rfl) ?_
              refine va_get (D := D) (ci := 4) (v := .ref (ad 10)) (C := RX5) (T := TX5) (N := 11) hx hb hts hin_RX5 hown hE.1 hP 0 (wd_at (M := Mk) (show 0 < n by omega) ((g_0 cy ad) _)) rfl 9 (by decide) hf52 (fun _ h9 => h9) rfl dX5_endOfGoodSignature_88 ?_
              refine va_getN (D := D) (ci := 2) (v := .int (Mk 10 1)) (C := RX3) (T := TX3) (N := 4) hx hb hts hin_RX3 hown hE.1 hP 10 (wd_at (M := Mk) (show 10 < n by omega) ((sg_10 cy ad).1 _)) rfl 1 (by decide) hf230 (fun _ h9 => h9) rfl dX5_endOfGoodSignature_91 ?_
              refine wr_top (y := (nI (2 + pkN (M 7) a0))) hI.2.2.1 ?_
              refine lv_icmp_ge (tgt := 123) hx hb dX5_endOfGoodSignature_94 (by decide) (fun c_94 => ?_) (fun c_94 => ?_)
              · have c_94 := (nI_leI (by omega) (by omega)).mp c_94
                refine wr_newC (cy := cy) (ad := ad) hx hb hts hin_RX0 hown (hts (.classLink RX5 129 RX0) (by decide +kernel)) (hts (.instantiable RX0 4) (by decide +kernel)) (hts (.initialized RX0) (by decide +kernel)) hE.1 hP (hD _) hS hA (Nat.le_of_ble_eq_true rfl) (Nat.le_of_ble_eq_true rfl) dX5_endOfGoodSignature_123 (fun qc H hP hDq hS => ?_)
                refine lv_dup hx hb dX5_endOfGoodSignature_126 rfl ?_
                refine lv_aload_n hx hb dX5_endOfGoodSignature_127 rfl (lv_at hl 1 rfl) ?_
                refine va_get (D := D) (ci := 4) (v := .ref (ad 8)) (C := RX5) (T := TX5) (N := 11) hx hb hts hin_RX5 hown hE.1 hP 0 (wd_at (M := Mk) (show 0 < n by omega) ((g_0 cy ad) _)) rfl 8 (by decide) hf49 (fun _ h9 => h9) rfl dX5_endOfGoodSignature_128 ?_
                refine lv_aload_n hx hb dX5_endOfGoodSignature_131 rfl (lv_at hl 1 rfl) ?_
                refine va_get (D := D) (ci := 4) (v := .ref (ad 7)) (C := RX5) (T := TX5) (N := 11) hx hb hts hin_RX5 hown hE.1 hP 0 (wd_at (M := Mk) (show 0 < n by omega) ((g_0 cy ad) _)) rfl 6 (by decide) hf42 (fun _ h9 => h9) rfl dX5_endOfGoodSignature_132 ?_
                refine lv_iconst (v := (nI 0)) hx hb dX5_endOfGoodSignature_135 (by decide) ?_
                refine wr_ald (cy := cy) (ad := ad) (ex := [(qc, .inr (0, [.null, .int 0, .int 0, .int 0]))]) hx hb hE.1 hP 7 (show 7 < n by omega) ((g_7 cy ad) _) 0 rfl (by omega) (by decide) dX5_endOfGoodSignature_136 ?_
                refine wr_top (y := (M 7 0)) (by rw [hI.2.1 _ (by decide) (by decide) (by decide) (by decide)]) ?_
                refine lv_iload_n hx hb dX5_endOfGoodSignature_137 rfl (lv_at hl 3 rfl) ?_
                refine lv_aload_n hx hb dX5_endOfGoodSignature_138 rfl (lv_at hl 1 rfl) ?_
                refine va_get (D := D) (ci := 4) (v := .ref (ad 7)) (C := RX5) (T := TX5) (N := 11) hx hb hts hin_RX5 hown hE.1 hP 0 (wd_at (M := Mk) (show 0 < n by omega) ((g_0 cy ad) _)) rfl 6 (by decide) hf42 (fun _ h9 => h9) rfl dX5_endOfGoodSignature_139 ?_
                refine lv_iload hx hb dX5_endOfGoodSignature_142 (lv_at hl 5 rfl) ?_
                refine wr_ald (cy := cy) (ad := ad) (ex := [(qc, .inr (0, [.null, .int 0, .int 0, .int 0]))]) hx hb hE.1 hP 7 (show 7 < n by omega) ((g_7 cy ad) _) (a0 + 1 + pkN (M 7) a0) rfl (by omega) (by decide) dX5_endOfGoodSignature_144 ?_
                refine wr_top (y := (M 7 (a0 + 1 + pkN (M 7) a0))) (by rw [hI.2.1 _ (by decide) (by decide) (by decide) (by decide)]) ?_
                refine va_callv (va_runI (As := [.ref (ad 8), .int (M 7 0), .int (nI bB), .int (M 7 (a0 + 1 + pkN (M 7) a0))]) (rest := [.ref qc]) ⟨hx, hb, hml, hown, hts⟩ (kX0_init l (ks := 8) hDq) (cwI 4 hts ggX5_endOfGoodSignature_X0_init rfl rfl rfl (hts (.initialized RX0) (by decide +kernel)) (hts (.methodLink RX5 134 yX0_init) (by decide +kernel)) (hts (.instanceMethod yX0_init) (by decide +kernel)) rfl (by decide +kernel) ⟨Nat.le_of_ble_eq_true rfl, Nat.le_of_ble_eq_true rfl⟩) (rw_ps hE hP hS hA) rfl rfl hl.1 rfl (lv_room (Nat.le_of_ble_eq_true rfl)) dX5_endOfGoodSignature_145 ⟨Nat.le_of_ble_eq_true rfl, Nat.le_of_ble_eq_true rfl⟩) hS (fun q _ h => h) (fun q h => h) (fun u_145 t H1 locs ht hvm hr_145 hB_145 hz1 hk1 hS => ?_)
                have hP : va_P D vwCl (wd cy ad n Mk ++ [(qc, .inr (0, [.ref (ad 8), .int (M 7 0), .int (nI bB), .int (M 7 (a0 + 1 + pkN (M 7) a0))]))]) H1 := by rw [← ht]; exact hB_145
                clear hB_145 ht hvm hz1 hk1 hr_145
                generalize H1 = H at hP hS ⊢
                have hDc : ∀ M9, va_D A (wd cy ad n M9 ++ [(qc, .inr (0, [.ref (ad 8), .int (M 7 0), .int (nI bB), .int (M 7 (a0 + 1 + pkN (M 7) a0))]))]) := fun _ => wd_Dx hDq
                refine lv_astore (lv' := [(7, .ref qc), (0, .ref (ad 0)), (1, .int (nI a0)), (2, .int (nI bB)), (3, .int (nI (pkN (M 7) a0))), (4, .int (nI (a0 + 1 + pkN (M 7) a0))), (5, .int (nI (a0 + 2 + pkN (M 7) a0))), (6, .int (nI (a0 + 4 + 2 * pkN (M 7) a0)))]) hx hb dX5_endOfGoodSignature_148 hl (by decide) rfl (fun ls hl => ?_)
                refine lv_aload hx hb dX5_endOfGoodSignature_150 (lv_at hl 0 rfl) ?_
                refine lv_aload_n hx hb dX5_endOfGoodSignature_152 rfl (lv_at hl 1 rfl) ?_
                refine va_get (D := D) (ci := 4) (v := .ref (ad 10)) (C := RX5) (T := TX5) (N := 11) hx hb hts hin_RX5 hown hE.1 hP 0 (wd_at (M := Mk) (show 0 < n by omega) ((g_0 cy ad) _)) rfl 9 (by decide) hf52 (fun _ h9 => h9) rfl dX5_endOfGoodSignature_153 ?_
                have hgi := gd_iff (n := pkN (M 7) a0) (B := bB) (v := (M 7 0)) (mo := M 7 (a0 + 1 + pkN (M 7) a0)) (y := Mk (8 + 1)) (y' := fun i => M 7 (a0 + 1 + i)) (num := Mk (10 + 1)) (num' := fun i => M 7 (a0 + 2 + pkN (M 7) a0 + i)) hI.2.2.2.2.1 (fun j hj => hI.2.2.2.2.2 j (by omega))
                refine vp_callSi (W.runV (As := [.ref (ad 10)]) (rest := []) ⟨hx, hb, hml, hown, hts⟩ (kX0_isProvedBy l (kr_8 cy ad) (by omega) (by omega) hI.2.2.2.1 (by omega) (sg_10 cy ad) (by omega) (by omega) (fun j hj => by rw [hI.2.2.2.2.1 j hj]; exact (hq_66 j hj).1) hB) (cwV 1 hts gX5_endOfGoodSignature_X0_isProvedBy rfl rfl rfl (by decide +kernel) ⟨Nat.le_of_ble_eq_true rfl, Nat.le_of_ble_eq_true rfl⟩) (ro_pv (ci := 0) (q := (RX0, TX0, 4)) hE hP rfl wd_ex) rfl rfl hl.1 rfl (lv_room (Nat.le_of_ble_eq_true rfl)) dX5_endOfGoodSignature_156 ⟨Nat.le_of_ble_eq_true rfl, Nat.le_of_ble_eq_true rfl⟩) (fun r_156 hr_156 => ?_)
                rcases hr_156 with ⟨hq_156, rfl⟩ | ⟨hq_156, rfl⟩
                · refine lv_if_eq (tgt := 167) hx hb dX5_endOfGoodSignature_159 (by decide) (fun c_159 => ?_) (fun c_159 => ?_)
                  · exact absurd c_159 (by decide)
                  · have c_159 := mt (o_eq0 _).mpr c_159
                    refine lv_iload hx hb dX5_endOfGoodSignature_162 (lv_at hl 7 rfl) ?_
                    refine lv_goto (tgt := 168) hx hb dX5_endOfGoodSignature_164 (by decide) ?_
                    refine W.widen (k := 1) (n := 4) (Nat.le_of_ble_eq_true rfl) (Nat.le_of_ble_eq_true rfl) ?_
                    exact W.iret (v := (nI (a0 + 4 + 2 * pkN (M 7) a0))) hx hb hr (fun t ht hW => ⟨⟨(nI (a0 + 4 + 2 * pkN (M 7) a0)), Mk, rfl, ⟨Or.inl ⟨⟨by omega, by omega, by omega, by omega, hq_66, hgi.mp hq_156.2⟩, rfl, hI.2.2.2.2.2 1 (by omega)⟩, fun a a8 a9 a10 a11 => hI.2.1 a a8 a9 a10 a11⟩, (by show va_P D vwCl _ t.heap; rw [ht]; exact va_pre hP)⟩, hS.F ht⟩) hS.2.2 dX5_endOfGoodSignature_168
                · refine lv_if_eq (tgt := 167) hx hb dX5_endOfGoodSignature_159 (by decide) (fun c_159 => ?_) (fun c_159 => ?_)
                  · have c_159 := (o_eq0 _).mp c_159
                    refine lv_iconst (v := (-1)) hx hb dX5_endOfGoodSignature_167 (by decide) ?_
                    refine W.widen (k := 1) (n := 4) (Nat.le_of_ble_eq_true rfl) (Nat.le_of_ble_eq_true rfl) ?_
                    exact W.iret (v := (-1)) hx hb hr (fun t ht hW => ⟨⟨(-1), Mk, rfl, ⟨Or.inr ⟨fun h => hq_156 ⟨hI.2.2.1, hgi.mpr h.2.2.2.2.2⟩, rfl⟩, fun a a8 a9 a10 a11 => hI.2.1 a a8 a9 a10 a11⟩, (by show va_P D vwCl _ t.heap; rw [ht]; exact va_pre hP)⟩, hS.F ht⟩) hS.2.2 dX5_endOfGoodSignature_168
                  · exact absurd c_159 (by decide)
              · have c_94 := mt (nI_leI (by omega) (by omega)).mpr c_94
                refine lv_aload_n hx hb dX5_endOfGoodSignature_97 rfl (lv_at hl 1 rfl) ?_
                refine va_get (D := D) (ci := 4) (v := .ref (ad 10)) (C := RX5) (T := TX5) (N := 11) hx hb hts hin_RX5 hown hE.1 hP 0 (wd_at (M := Mk) (show 0 < n by omega) ((g_0 cy ad) _)) rfl 9 (by decide) hf52 (fun _ h9 => h9) rfl dX5_endOfGoodSignature_98 ?_
                refine va_getN (D := D) (ci := 2) (v := .ref (ad (10 + 1))) (C := RX3) (T := TX3) (N := 4) hx hb hts hin_RX3 hown hE.1 hP 10 (wd_at (M := Mk) (show 10 < n by omega) ((sg_10 cy ad).1 _)) rfl 0 (by decide) hf141 (fun _ h9 => h9) rfl dX5_endOfGoodSignature_101 ?_
                refine lv_iload hx hb dX5_endOfGoodSignature_104 (lv_at hl 0 rfl) ?_
                refine lv_aload_n hx hb dX5_endOfGoodSignature_106 rfl (lv_at hl 1 rfl) ?_
                refine va_get (D := D) (ci := 4) (v := .ref (ad 7)) (C := RX5) (T := TX5) (N := 11) hx hb hts hin_RX5 hown hE.1 hP 0 (wd_at (M := Mk) (show 0 < n by omega) ((g_0 cy ad) _)) rfl 6 (by decide) hf42 (fun _ h9 => h9) rfl dX5_endOfGoodSignature_107 ?_
                refine lv_iload hx hb dX5_endOfGoodSignature_110 (lv_at hl 6 rfl) ?_
                refine lv_iload hx hb dX5_endOfGoodSignature_112 (lv_at hl 0 rfl) ?_
                refine lv_iadd hx hb dX5_endOfGoodSignature_114 ?_
                refine wr_top (y := (nI (a0 + 2 + pkN (M 7) a0 + i))) (nI_add _ _) ?_
                refine wr_ald (cy := cy) (ad := ad) (ex := []) hx hb hE.1 hP 7 (show 7 < n by omega) ((g_7 cy ad) _) (a0 + 2 + pkN (M 7) a0 + i) rfl (by omega) (by decide) dX5_endOfGoodSignature_115 ?_
                refine wr_top (y := (M 7 (a0 + 2 + pkN (M 7) a0 + i))) (by rw [hI.2.1 _ (by decide) (by decide) (by decide) (by decide)]) ?_
                refine wr_ast (cy := cy) (ad := ad) (ex := []) hx hb hE.1 hP hD hS (10 + 1) (show 10 + 1 < n by omega) (sg_10 cy ad).2 i rfl (by omega) (by decide) dX5_endOfGoodSignature_116 (fun H locs hP hS => ?_)
                refine lv_iinc (v := (nI (i + 1))) (lv' := [(7, .int (nI (i + 1))), (0, .ref (ad 0)), (1, .int (nI a0)), (2, .int (nI bB)), (3, .int (nI (pkN (M 7) a0))), (4, .int (nI (a0 + 1 + pkN (M 7) a0))), (5, .int (nI (a0 + 2 + pkN (M 7) a0))), (6, .int (nI (a0 + 4 + 2 * pkN (M 7) a0)))]) hx hb dX5_endOfGoodSignature_117 hl (k := 0) rfl (nI_1 _) (by decide) rfl (fun ls hl => ?_)
                refine lv_goto (tgt := 85) hx hb dX5_endOfGoodSignature_120 (by decide) ?_
                exact ih85 _ (i + 1, (st Mk (10 + 1) i (M 7 (a0 + 2 + pkN (M 7) a0 + i)))) _ _ _ (by omega) ⟨rfl, ⟨by omega, fun a a8 a9 a10 a11 => by rw [st_r _ _ _ a11]; exact hI.2.1 a a8 a9 a10 a11, by rw [st_r _ _ _ (by decide)]; exact hI.2.2.1, by rw [st_r _ _ _ (by decide)]; exact hI.2.2.2.1, fun j hj => by rw [st_r _ _ _ (by decide)]; exact hI.2.2.2.2.1 j hj, fun j hj => by rcases Nat.lt_or_ge j i with h | h <;> first | (rw [st_c _ _ _ (show j ≠ i by omega)]; exact hI.2.2.2.2.2 j h) | (rw [show j = i by omega, st_s])⟩, hP, hS, (lv_sub hl [0, 1, 2, 3, 4, 5, 6, 7] rfl)⟩
            · exact absurd c_69 (by decide)
          · refine lv_if_ne (tgt := 74) hx hb dX5_endOfGoodSignature_69 (by decide) (fun c_69 => ?_) (fun c_69 => ?_)
            · exact absurd c_69 (by decide)
            · have c_69 := (o_eq0 _).mp c_69
              refine lv_iconst (v := (-1)) hx hb dX5_endOfGoodSignature_72 (by decide) ?_
              refine W.widen (k := 1) (n := 4) (Nat.le_of_ble_eq_true rfl) (Nat.le_of_ble_eq_true rfl) ?_
              exact W.iret (v := (-1)) hx hb hr (fun t ht hW => ⟨⟨(-1), u_66, rfl, ⟨Or.inr ⟨fun h => hq_66 h.2.2.2.2.1, rfl⟩, fun a a8 a9 _ _ => hf1 a a8 a9⟩, (by show va_P D vwCl _ t.heap; rw [ht]; exact hP)⟩, hS.F ht⟩) hS.2.2 dX5_endOfGoodSignature_73
      · have c_25 := mt (o_ge (by omega) _).mpr c_25
        refine lv_iconst (v := (-1)) hx hb dX5_endOfGoodSignature_28 (by decide) ?_
        refine W.widen (k := 1) (n := 4) (Nat.le_of_ble_eq_true rfl) (Nat.le_of_ble_eq_true rfl) ?_
        exact W.iret (v := (-1)) hx hb hr (fun t ht hW => ⟨⟨(-1), M, rfl, ⟨Or.inr ⟨fun h => by have := h.2.1; have := h.2.2.1; omega, rfl⟩, fun a _ _ _ _ => rfl⟩, (by show va_P D vwCl _ t.heap; rw [ht]; exact hP)⟩, hS.F ht⟩) hS.2.2 dX5_endOfGoodSignature_29
  · have c_5 := mt (nI_ltI (by omega) (by omega)).mpr c_5
    refine lv_iconst (v := (-1)) hx hb dX5_endOfGoodSignature_8 (by decide) ?_
    refine W.widen (k := 1) (n := 4) (Nat.le_of_ble_eq_true rfl) (Nat.le_of_ble_eq_true rfl) ?_
    exact W.iret (v := (-1)) hx hb hr (fun t ht hW => ⟨⟨(-1), M, rfl, ⟨Or.inr ⟨fun h => by have := h.1; omega, rfl⟩, fun a _ _ _ _ => rfl⟩, (by show va_P D vwCl _ t.heap; rw [ht]; exact hP)⟩, hS.F ht⟩) hS.2.2 dX5_endOfGoodSignature_9
