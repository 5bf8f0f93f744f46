set_option maxHeartbeats 4000000 in
set_option maxRecDepth 100000 in
/-- addSignatureToBundle -/
theorem kX5_addSignatureToBundle (l : Launch) {D : va_G} {cy ad : Nat → Nat} {n : Nat} {M : Mm} {A : Nat → Prop} (hD : ∀ M, va_D A (wd cy ad n M ++ [])) (hn : 137 ≤ n) {tq kq0 sr0 b0 : Nat} {rs : Nat → Nat} {f0 : Nat → Int32} (ht6 : tq < 6) (hk8 : kq0 < 8) (hsr8 : sr0 < 8) (hsr : M (29 + 18 * tq + 2 + 2 * kq0) 2 = nI sr0) (hsz : M (29 + 18 * tq + 2 + 2 * kq0) 1 = nI (2 + rs sr0)) (hz : M (13 + 2 * sr0) 1 = nI (rs sr0)) (hz6 : rs sr0 ≤ 6) (hb0 : M 0 7 = nI b0) (hb1 : b0 + 16 ≤ 200) (hf0 : bdP M M b0 f0) : Met l yX5_addSignatureToBundle wsX5_addSignatureToBundle ({ frames := 1, cells := 0, slots := 0, locals := 21 }) (va_Pc [.ref (ad 0), .ref (ad (29 + 18 * tq)), .int (nI kq0)] (RW D cy (wd cy ad n M ++ []) A)) (va_Qv (S := Mm) (fun u => bdP M u (b0 + (4 + 2 * rs sr0)) (pcF f0 b0 (rs sr0) (M (13 + 2 * sr0 + 1)) (M (29 + 18 * tq + 2 + 2 * kq0) 3) (M (29 + 18 * tq + 2 + 2 * kq0 + 1)))) (fun u t => va_P D vwCl (wd cy ad n u ++ []) t.heap) A) 0 0 A := by
  refine Met.ofW (cc := cX5_addSignatureToBundle) (maxL := 6) (ret := none) (by decide +kernel) rfl ?_
  intro p e s m args below meth c s₁ B hml hv
  obtain ⟨rfl, hP, hE, hA⟩ := hv
  have hx := B.exec
  have hb := B.bytes
  have hr := B.returns
  have hts := atoms_spec (ws := wsX5_addSignatureToBundle) B.pre
  have hown : s.vm.findClass RX5 = some m.cls := findClass_of_methodNamed B.named
  have hlocks := B.notSynchronized
  have hf124 : (Cond.fieldLinkNest RX5 124 "RingPetition$KeyRow" "keys" "[I" "RingPetition").before #[.ref (ad 0), .ref (ad (29 + 18 * tq)), .int (nI kq0)] s = true := va_Nw.use rfl (hE.2 _ (List.mem_of_getElem? (i := 1) rfl))
  have hf141 : (Cond.fieldLinkNest RX5 141 "RingPetition$Signature" "numbers" "[I" "RingPetition").before #[.ref (ad 0), .ref (ad (29 + 18 * tq)), .int (nI kq0)] s = true := va_Nw.use rfl (hE.2 _ (List.mem_of_getElem? (i := 7) rfl))
  have hf18 : (Cond.fieldLink RX5 18 "RingPetition" "rings" "[LRingPetition$KeyRow;").before #[.ref (ad 0), .ref (ad (29 + 18 * tq)), .int (nI kq0)] s = true := hts _ (by decide +kernel)
  have hf186 : (Cond.fieldLinkNest RX5 186 "RingPetition$Topic" "stored" "[LRingPetition$Signature;" "RingPetition").before #[.ref (ad 0), .ref (ad (29 + 18 * tq)), .int (nI kq0)] s = true := va_Nw.use rfl (hE.2 _ (List.mem_of_getElem? (i := 18) rfl))
  have hf224 : (Cond.fieldLinkNest RX5 224 "RingPetition$Signature" "ringNumber" "I" "RingPetition").before #[.ref (ad 0), .ref (ad (29 + 18 * tq)), .int (nI kq0)] s = true := va_Nw.use rfl (hE.2 _ (List.mem_of_getElem? (i := 11) rfl))
  have hf227 : (Cond.fieldLinkNest RX5 227 "RingPetition$Signature" "motion" "I" "RingPetition").before #[.ref (ad 0), .ref (ad (29 + 18 * tq)), .int (nI kq0)] s = true := va_Nw.use rfl (hE.2 _ (List.mem_of_getElem? (i := 13) rfl))
  have hf230 : (Cond.fieldLinkNest RX5 230 "RingPetition$Signature" "size" "I" "RingPetition").before #[.ref (ad 0), .ref (ad (29 + 18 * tq)), .int (nI kq0)] s = true := va_Nw.use rfl (hE.2 _ (List.mem_of_getElem? (i := 9) rfl))
  have hf75 : (Cond.fieldLinkNest RX5 75 "RingPetition$KeyRow" "size" "I" "RingPetition").before #[.ref (ad 0), .ref (ad (29 + 18 * tq)), .int (nI kq0)] s = true := va_Nw.use rfl (hE.2 _ (List.mem_of_getElem? (i := 3) rfl))
  have hin_RX1 : ∀ w ∈ u_ws RX1 TX1 2, w ∈ wsX5_addSignatureToBundle := by decide +kernel
  have hin_RX3 : ∀ w ∈ u_ws RX3 TX3 4, w ∈ wsX5_addSignatureToBundle := by decide +kernel
  have hin_RX4 : ∀ w ∈ u_ws RX4 TX4 5, w ∈ wsX5_addSignatureToBundle := by decide +kernel
  have hin_RX5 : ∀ w ∈ u_ws RX5 TX5 11, w ∈ wsX5_addSignatureToBundle := by decide +kernel
  have hS : va_S A s.heap s.heap [] := va_S.rf
  have hl := lv_entry ([.ref (ad 0), .ref (ad (29 + 18 * tq)), .int (nI kq0)]) (n := 6) (Nat.le_of_ble_eq_true rfl)
  rw [lg_entry_eq]
  generalize (lg_sl ([.ref (ad 0), .ref (ad (29 + 18 * tq)), .int (nI kq0)]) ++ List.replicate (6 - (lg_sl ([.ref (ad 0), .ref (ad (29 + 18 * tq)), .int (nI kq0)])).length) Slot.unset).toArray = ls at hl ⊢
  have hl : lv_has ls 6 [(0, .ref (ad 0)), (1, .ref (ad (29 + 18 * tq))), (2, .int (nI kq0))] := hl
  refine lv_aload_n hx hb dX5_addSignatureToBundle_0 rfl (lv_at hl 1 rfl) ?_
  refine va_getN (D := D) (ci := 3) (v := .ref (ad (29 + 18 * tq + 1))) (C := RX4) (T := TX4) (N := 5) hx hb hts hin_RX4 hown hE.1 hP (29 + 18 * tq) (wd_at (M := M) (show 29 + 18 * tq < n by omega) ((tp_t cy ad (show tq < 6 by omega)).1 _)) rfl 3 (by decide) hf186 (fun _ h9 => h9) rfl dX5_addSignatureToBundle_1 ?_
  refine lv_iload_n hx hb dX5_addSignatureToBundle_4 rfl (lv_at hl 2 rfl) ?_
  refine wr_aldq (cy := cy) (ad := ad) (ex := []) hx hb hE.1 hP (29 + 18 * tq + 1) (show 29 + 18 * tq + 1 < n by omega) 4 ((tp_t cy ad (show tq < 6 by omega)).2.1 _) rfl kq0 rfl (by omega) (by decide) dX5_addSignatureToBundle_5 ?_
  refine lv_astore_n (lv' := [(3, .ref (ad (29 + 18 * tq + 2 + 2 * kq0))), (0, .ref (ad 0)), (1, .ref (ad (29 + 18 * tq))), (2, .int (nI kq0))]) hx hb dX5_addSignatureToBundle_6 rfl hl (by decide) rfl (fun ls hl => ?_)
  refine lv_aload_n hx hb dX5_addSignatureToBundle_7 rfl (lv_at hl 1 rfl) ?_
  refine va_get (D := D) (ci := 4) (v := .ref (ad 3)) (C := RX5) (T := TX5) (N := 11) hx hb hts hin_RX5 hown hE.1 hP 0 (wd_at (M := M) (show 0 < n by omega) ((g_0 cy ad) _)) rfl 1 (by decide) hf18 (fun _ h9 => h9) rfl dX5_addSignatureToBundle_8 ?_
  refine lv_aload_n hx hb dX5_addSignatureToBundle_11 rfl (lv_at hl 0 rfl) ?_
  refine va_getN (D := D) (ci := 2) (v := .int (M (29 + 18 * tq + 2 + 2 * kq0) 2)) (C := RX3) (T := TX3) (N := 4) hx hb hts hin_RX3 hown hE.1 hP (29 + 18 * tq + 2 + 2 * kq0) (wd_at (M := M) (show 29 + 18 * tq + 2 + 2 * kq0 < n by omega) (((tp_t cy ad (show tq < 6 by omega)).2.2 kq0 (by omega)).1 _)) rfl 2 (by decide) hf224 (fun _ h9 => h9) rfl dX5_addSignatureToBundle_12 ?_
  refine wr_top (y := (nI sr0)) hsr ?_
  refine wr_aldq (cy := cy) (ad := ad) (ex := []) hx hb hE.1 hP 3 (show 3 < n by omega) 3 ((g_3 cy ad) _) rfl sr0 rfl (by omega) (by decide) dX5_addSignatureToBundle_15 ?_
  refine lv_astore (lv' := [(4, .ref (ad (13 + 2 * sr0))), (3, .ref (ad (29 + 18 * tq + 2 + 2 * kq0))), (0, .ref (ad 0)), (1, .ref (ad (29 + 18 * tq))), (2, .int (nI kq0))]) hx hb dX5_addSignatureToBundle_16 hl (by decide) rfl (fun ls hl => ?_)
  refine lv_aload_n hx hb dX5_addSignatureToBundle_18 rfl (lv_at hl 2 rfl) ?_
  refine lv_aload hx hb dX5_addSignatureToBundle_19 (lv_at hl 0 rfl) ?_
  refine va_getN (D := D) (ci := 1) (v := .int (M (13 + 2 * sr0) 1)) (C := RX1) (T := TX1) (N := 2) hx hb hts hin_RX1 hown hE.1 hP (13 + 2 * sr0) (wd_at (M := M) (show 13 + 2 * sr0 < n by omega) ((kr_r cy ad (show sr0 < 8 by omega)).1 _)) rfl 1 (by decide) hf75 (fun _ h9 => h9) rfl dX5_addSignatureToBundle_21 ?_
  refine wr_top (y := (nI (rs sr0))) hz ?_
  refine va_callv (va_runV (As := [.int (nI (rs sr0))]) (rest := []) ⟨hx, hb, hml, hown, hts⟩ (kX5_addToBundle l hD hn hb0 (by omega)) (cwV 1 hts gX5_addSignatureToBundle_X5_addToBundle rfl rfl rfl (by decide +kernel) ⟨Nat.le_of_ble_eq_true rfl, Nat.le_of_ble_eq_true rfl⟩) (rw_pv (ci := 4) (q := (RX5, TX5, 11)) hE hP hS hA rfl (wd_at (M := M) (show 0 < n by omega) ((g_0 cy ad) _))) rfl rfl hl.1 rfl (lv_room (Nat.le_of_ble_eq_true rfl)) dX5_addSignatureToBundle_24 ⟨Nat.le_of_ble_eq_true rfl, Nat.le_of_ble_eq_true rfl⟩) hS (fun q _ h => h) (fun q h => h) (fun u_24 t H1 locs ht hvm hr_24 hB_24 hz1 hk1 hS => ?_)
  have hP : va_P D vwCl (wd cy ad n u_24 ++ []) H1 := by rw [← ht]; exact hB_24
  clear hB_24 ht hvm hz1 hk1
  generalize H1 = H at hP hS ⊢
  subst hr_24
  have hN := bd_put (x := nI (rs sr0)) hf0
  refine lv_iconst (v := (nI 0)) hx hb dX5_addSignatureToBundle_27 (by decide) ?_
  refine lv_istore (lv' := [(5, .int (nI 0)), (4, .ref (ad (13 + 2 * sr0))), (3, .ref (ad (29 + 18 * tq + 2 + 2 * kq0))), (0, .ref (ad 0)), (1, .ref (ad (29 + 18 * tq))), (2, .int (nI kq0))]) hx hb dX5_addSignatureToBundle_28 hl (by decide) rfl (fun ls hl => ?_)
  refine wloopW (fun kq (xq : Nat × Mm) H locs ls => match xq with | (i, Mk) => kq = rs sr0 - i ∧ (i ≤ rs sr0 ∧ bdP M Mk (b0 + 1 + i) (pcF f0 b0 (rs sr0) (M (13 + 2 * sr0 + 1)) (M (29 + 18 * tq + 2 + 2 * kq0) 3) (M (29 + 18 * tq + 2 + 2 * kq0 + 1)))) ∧ va_P D vwCl (wd cy ad n Mk ++ []) H ∧ va_S A s.heap H locs ∧ lv_has ls 6 [(5, .int (nI i)), (0, .ref (ad 0)), (1, .ref (ad (29 + 18 * tq))), (2, .int (nI kq0)), (3, .ref (ad (29 + 18 * tq + 2 + 2 * kq0))), (4, .ref (ad (13 + 2 * sr0)))]) (fun k30 x30 H locs ls h30 ih30 => ?_) _ (0, (st (st M 7 b0 (nI (rs sr0))) 0 7 (nI (b0 + 1)))) _ _ ls ⟨rfl, ⟨Nat.zero_le _, bd_cong hN (fun j hj => pc_0 hj)⟩, hP, hS, lv_sub hl [0, 3, 4, 5, 2, 1] rfl⟩
  obtain ⟨i, Mk⟩ := x30
  obtain ⟨hk30, hI, hP, hS, hl⟩ := h30
  refine lv_iload hx hb dX5_addSignatureToBundle_30 (lv_at hl 0 rfl) ?_
  refine lv_aload hx hb dX5_addSignatureToBundle_32 (lv_at hl 5 rfl) ?_
  refine va_getN (D := D) (ci := 1) (v := .int (Mk (13 + 2 * sr0) 1)) (C := RX1) (T := TX1) (N := 2) hx hb hts hin_RX1 hown hE.1 hP (13 + 2 * sr0) (wd_at (M := Mk) (show 13 + 2 * sr0 < n by omega) ((kr_r cy ad (show sr0 < 8 by omega)).1 _)) rfl 1 (by decide) hf75 (fun _ h9 => h9) rfl dX5_addSignatureToBundle_34 ?_
  refine wr_top (y := (nI (rs sr0))) (by rw [hI.2.1 _ (by omega) (by omega)]; exact hz) ?_
  refine lv_icmp_ge (tgt := 58) hx hb dX5_addSignatureToBundle_37 (by decide) (fun c_37 => ?_) (fun c_37 => ?_)
  · have c_37 := (nI_leI (by omega) (by omega)).mp c_37
    refine lv_aload_n hx hb dX5_addSignatureToBundle_58 rfl (lv_at hl 1 rfl) ?_
    refine lv_aload_n hx hb dX5_addSignatureToBundle_59 rfl (lv_at hl 4 rfl) ?_
    refine va_getN (D := D) (ci := 2) (v := .int (Mk (29 + 18 * tq + 2 + 2 * kq0) 3)) (C := RX3) (T := TX3) (N := 4) hx hb hts hin_RX3 hown hE.1 hP (29 + 18 * tq + 2 + 2 * kq0) (wd_at (M := Mk) (show 29 + 18 * tq + 2 + 2 * kq0 < n by omega) (((tp_t cy ad (show tq < 6 by omega)).2.2 kq0 (by omega)).1 _)) rfl 3 (by decide) hf227 (fun _ h9 => h9) rfl dX5_addSignatureToBundle_60 ?_
    refine wr_top (y := (M (29 + 18 * tq + 2 + 2 * kq0) 3)) (by rw [hI.2.1 _ (by omega) (by omega)]) ?_
    refine va_callv (va_runV (As := [.int (M (29 + 18 * tq + 2 + 2 * kq0) 3)]) (rest := []) ⟨hx, hb, hml, hown, hts⟩ (kX5_addToBundle l hD hn hI.2.2.2.1 (by omega)) (cwV 1 hts gX5_addSignatureToBundle_X5_addToBundle rfl rfl rfl (by decide +kernel) ⟨Nat.le_of_ble_eq_true rfl, Nat.le_of_ble_eq_true rfl⟩) (rw_pv (ci := 4) (q := (RX5, TX5, 11)) hE hP hS hA rfl (wd_at (M := Mk) (show 0 < n by omega) ((g_0 cy ad) _))) rfl rfl hl.1 rfl (lv_room (Nat.le_of_ble_eq_true rfl)) dX5_addSignatureToBundle_63 ⟨Nat.le_of_ble_eq_true rfl, Nat.le_of_ble_eq_true rfl⟩) hS (fun q _ h => h) (fun q h => h) (fun u_63 t H1 locs ht hvm hr_63 hB_63 hz1 hk1 hS => ?_)
    have hP : va_P D vwCl (wd cy ad n u_63 ++ []) H1 := by rw [← ht]; exact hB_63
    clear hB_63 ht hvm hz1 hk1
    generalize H1 = H at hP hS ⊢
    subst hr_63
    refine lv_iconst (v := (nI 0)) hx hb dX5_addSignatureToBundle_66 (by decide) ?_
    refine lv_istore (lv' := [(5, .int (nI 0)), (0, .ref (ad 0)), (1, .ref (ad (29 + 18 * tq))), (2, .int (nI kq0)), (3, .ref (ad (29 + 18 * tq + 2 + 2 * kq0))), (4, .ref (ad (13 + 2 * sr0)))]) hx hb dX5_addSignatureToBundle_67 hl (by decide) rfl (fun ls hl => ?_)
    refine wloopW (fun kq (xq : Nat × Mm) H locs ls => match xq with | (i2, Nk) => kq = 2 + rs sr0 - i2 ∧ (i2 ≤ 2 + rs sr0 ∧ bdP M Nk (b0 + 2 + rs sr0 + i2) (pcF f0 b0 (rs sr0) (M (13 + 2 * sr0 + 1)) (M (29 + 18 * tq + 2 + 2 * kq0) 3) (M (29 + 18 * tq + 2 + 2 * kq0 + 1)))) ∧ va_P D vwCl (wd cy ad n Nk ++ []) H ∧ va_S A s.heap H locs ∧ lv_has ls 6 [(5, .int (nI i2)), (0, .ref (ad 0)), (1, .ref (ad (29 + 18 * tq))), (2, .int (nI kq0)), (3, .ref (ad (29 + 18 * tq + 2 + 2 * kq0))), (4, .ref (ad (13 + 2 * sr0)))]) (fun k69 x69 H locs ls h69 ih69 => ?_) _ (0, (st (st Mk 7 (b0 + 1 + i) (M (29 + 18 * tq + 2 + 2 * kq0) 3)) 0 7 (nI ((b0 + 1 + i) + 1)))) _ _ ls ⟨rfl, ⟨Nat.zero_le _, by rw [show b0 + 2 + rs sr0 + 0 = b0 + 1 + i + 1 by omega]; exact bd_cong (bd_put hI.2) (fun j hj => pc_2 hj (by omega))⟩, hP, hS, lv_sub hl [0, 1, 2, 3, 4, 5] rfl⟩
    obtain ⟨i2, Nk⟩ := x69
    obtain ⟨hk69, hJ, hP, hS, hl⟩ := h69
    refine lv_iload hx hb dX5_addSignatureToBundle_69 (lv_at hl 0 rfl) ?_
    refine lv_aload_n hx hb dX5_addSignatureToBundle_71 rfl (lv_at hl 4 rfl) ?_
    refine va_getN (D := D) (ci := 2) (v := .int (Nk (29 + 18 * tq + 2 + 2 * kq0) 1)) (C := RX3) (T := TX3) (N := 4) hx hb hts hin_RX3 hown hE.1 hP (29 + 18 * tq + 2 + 2 * kq0) (wd_at (M := Nk) (show 29 + 18 * tq + 2 + 2 * kq0 < n by omega) (((tp_t cy ad (show tq < 6 by omega)).2.2 kq0 (by omega)).1 _)) rfl 1 (by decide) hf230 (fun _ h9 => h9) rfl dX5_addSignatureToBundle_72 ?_
    refine wr_top (y := (nI (2 + rs sr0))) (by rw [hJ.2.1 _ (by omega) (by omega)]; exact hsz) ?_
    refine lv_icmp_ge (tgt := 95) hx hb dX5_addSignatureToBundle_75 (by decide) (fun c_75 => ?_) (fun c_75 => ?_)
    · have c_75 := (nI_leI (by omega) (by omega)).mp c_75
      exact W.vret hx hb hr (fun t ht hW => ⟨⟨Nk, rfl, by rw [show b0 + (4 + 2 * rs sr0) = b0 + 2 + rs sr0 + i2 by omega]; exact hJ.2, (by show va_P D vwCl _ t.heap; rw [ht]; exact hP)⟩, hS.F ht⟩) hS.2.2 dX5_addSignatureToBundle_95
    · have c_75 := mt (nI_leI (by omega) (by omega)).mpr c_75
      refine lv_aload_n hx hb dX5_addSignatureToBundle_78 rfl (lv_at hl 1 rfl) ?_
      refine lv_aload_n hx hb dX5_addSignatureToBundle_79 rfl (lv_at hl 4 rfl) ?_
      refine va_getN (D := D) (ci := 2) (v := .ref (ad (29 + 18 * tq + 2 + 2 * kq0 + 1))) (C := RX3) (T := TX3) (N := 4) hx hb hts hin_RX3 hown hE.1 hP (29 + 18 * tq + 2 + 2 * kq0) (wd_at (M := Nk) (show 29 + 18 * tq + 2 + 2 * kq0 < n by omega) (((tp_t cy ad (show tq < 6 by omega)).2.2 kq0 (by omega)).1 _)) rfl 0 (by decide) hf141 (fun _ h9 => h9) rfl dX5_addSignatureToBundle_80 ?_
      refine lv_iload hx hb dX5_addSignatureToBundle_83 (lv_at hl 0 rfl) ?_
      refine wr_ald (cy := cy) (ad := ad) (ex := []) hx hb hE.1 hP (29 + 18 * tq + 2 + 2 * kq0 + 1) (show 29 + 18 * tq + 2 + 2 * kq0 + 1 < n by omega) (((tp_t cy ad (show tq < 6 by omega)).2.2 kq0 (by omega)).2 _) i2 rfl (by omega) (by decide) dX5_addSignatureToBundle_85 ?_
      refine wr_top (y := (M (29 + 18 * tq + 2 + 2 * kq0 + 1) i2)) (by rw [hJ.2.1 _ (by omega) (by omega)]) ?_
      refine va_callv (va_runV (As := [.int (M (29 + 18 * tq + 2 + 2 * kq0 + 1) i2)]) (rest := []) ⟨hx, hb, hml, hown, hts⟩ (kX5_addToBundle l hD hn hJ.2.2.2.1 (by omega)) (cwV 1 hts gX5_addSignatureToBundle_X5_addToBundle rfl rfl rfl (by decide +kernel) ⟨Nat.le_of_ble_eq_true rfl, Nat.le_of_ble_eq_true rfl⟩) (rw_pv (ci := 4) (q := (RX5, TX5, 11)) hE hP hS hA rfl (wd_at (M := Nk) (show 0 < n by omega) ((g_0 cy ad) _))) rfl rfl hl.1 rfl (lv_room (Nat.le_of_ble_eq_true rfl)) dX5_addSignatureToBundle_86 ⟨Nat.le_of_ble_eq_true rfl, Nat.le_of_ble_eq_true rfl⟩) hS (fun q _ h => h) (fun q h => h) (fun u_86 t H1 locs ht hvm hr_86 hB_86 hz1 hk1 hS => ?_)
      have hP : va_P D vwCl (wd cy ad n u_86 ++ []) H1 := by rw [← ht]; exact hB_86
      clear hB_86 ht hvm hz1 hk1
      generalize H1 = H at hP hS ⊢
      subst hr_86
      refine lv_iinc (v := (nI (i2 + 1))) (lv' := [(5, .int (nI (i2 + 1))), (0, .ref (ad 0)), (1, .ref (ad (29 + 18 * tq))), (2, .int (nI kq0)), (3, .ref (ad (29 + 18 * tq + 2 + 2 * kq0))), (4, .ref (ad (13 + 2 * sr0)))]) hx hb dX5_addSignatureToBundle_89 hl (k := 0) rfl (nI_1 _) (by decide) rfl (fun ls hl => ?_)
      refine lv_goto (tgt := 69) hx hb dX5_addSignatureToBundle_92 (by decide) ?_
      exact ih69 _ (i2 + 1, (st (st Nk 7 (b0 + 2 + rs sr0 + i2) (M (29 + 18 * tq + 2 + 2 * kq0 + 1) i2)) 0 7 (nI ((b0 + 2 + rs sr0 + i2) + 1)))) _ _ _ (by omega) ⟨rfl, ⟨by omega, bd_cong (bd_put hJ.2) (fun j hj => pc_3 hj (by omega))⟩, hP, hS, (lv_sub hl [0, 1, 2, 3, 4, 5] rfl)⟩
  · have c_37 := mt (nI_leI (by omega) (by omega)).mpr c_37
    refine lv_aload_n hx hb dX5_addSignatureToBundle_40 rfl (lv_at hl 1 rfl) ?_
    refine lv_aload hx hb dX5_addSignatureToBundle_41 (lv_at hl 5 rfl) ?_
    refine va_getN (D := D) (ci := 1) (v := .ref (ad (13 + 2 * sr0 + 1))) (C := RX1) (T := TX1) (N := 2) hx hb hts hin_RX1 hown hE.1 hP (13 + 2 * sr0) (wd_at (M := Mk) (show 13 + 2 * sr0 < n by omega) ((kr_r cy ad (show sr0 < 8 by omega)).1 _)) rfl 0 (by decide) hf124 (fun _ h9 => h9) rfl dX5_addSignatureToBundle_43 ?_
    refine lv_iload hx hb dX5_addSignatureToBundle_46 (lv_at hl 0 rfl) ?_
    refine wr_ald (cy := cy) (ad := ad) (ex := []) hx hb hE.1 hP (13 + 2 * sr0 + 1) (show 13 + 2 * sr0 + 1 < n by omega) ((kr_r cy ad (show sr0 < 8 by omega)).2 _) i rfl (by omega) (by decide) dX5_addSignatureToBundle_48 ?_
    refine wr_top (y := (M (13 + 2 * sr0 + 1) i)) (by rw [hI.2.1 _ (by omega) (by omega)]) ?_
    refine va_callv (va_runV (As := [.int (M (13 + 2 * sr0 + 1) i)]) (rest := []) ⟨hx, hb, hml, hown, hts⟩ (kX5_addToBundle l hD hn hI.2.2.2.1 (by omega)) (cwV 1 hts gX5_addSignatureToBundle_X5_addToBundle rfl rfl rfl (by decide +kernel) ⟨Nat.le_of_ble_eq_true rfl, Nat.le_of_ble_eq_true rfl⟩) (rw_pv (ci := 4) (q := (RX5, TX5, 11)) hE hP hS hA rfl (wd_at (M := Mk) (show 0 < n by omega) ((g_0 cy ad) _))) rfl rfl hl.1 rfl (lv_room (Nat.le_of_ble_eq_true rfl)) dX5_addSignatureToBundle_49 ⟨Nat.le_of_ble_eq_true rfl, Nat.le_of_ble_eq_true rfl⟩) hS (fun q _ h => h) (fun q h => h) (fun u_49 t H1 locs ht hvm hr_49 hB_49 hz1 hk1 hS => ?_)
    have hP : va_P D vwCl (wd cy ad n u_49 ++ []) H1 := by rw [← ht]; exact hB_49
    clear hB_49 ht hvm hz1 hk1
    generalize H1 = H at hP hS ⊢
    subst hr_49
    refine lv_iinc (v := (nI (i + 1))) (lv' := [(5, .int (nI (i + 1))), (0, .ref (ad 0)), (1, .ref (ad (29 + 18 * tq))), (2, .int (nI kq0)), (3, .ref (ad (29 + 18 * tq + 2 + 2 * kq0))), (4, .ref (ad (13 + 2 * sr0)))]) hx hb dX5_addSignatureToBundle_52 hl (k := 0) rfl (nI_1 _) (by decide) rfl (fun ls hl => ?_)
    refine lv_goto (tgt := 30) hx hb dX5_addSignatureToBundle_55 (by decide) ?_
    exact ih30 _ (i + 1, (st (st Mk 7 (b0 + 1 + i) (M (13 + 2 * sr0 + 1) i)) 0 7 (nI ((b0 + 1 + i) + 1)))) _ _ _ (by omega) ⟨rfl, ⟨by omega, bd_cong (bd_put hI.2) (fun j hj => pc_1 hj (by omega))⟩, hP, hS, (lv_sub hl [0, 1, 2, 3, 4, 5] rfl)⟩
