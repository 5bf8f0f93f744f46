set_option maxHeartbeats 4000000 in
set_option maxRecDepth 100000 in
/-- isStoredWell -/
theorem kX5_isStoredWell (l : Launch) {D : va_G} {cy ad : Nat → Nat} {n : Nat} {M : Mm} {A : Nat → Prop} (hD : ∀ M, va_D A (wd cy ad n M ++ [])) (hn : 137 ≤ n) {rc tq k sc : Nat} {rs sr : Nat → Nat} (ht6 : tq < 6) (hrc8 : rc ≤ 8) (hrg : rgP rc rs M) (hbt : M (29 + 18 * tq) 1 = nI (tB (M (29 + 18 * tq) 0))) (hsc : M (29 + 18 * tq) 4 = nI sc) (hsc8 : sc ≤ 8) (hk : k < sc) (hst : stP rc rs sr sc tq M) : Met l yX5_isStoredWell wsX5_isStoredWell ({ frames := 4, cells := 1, slots := 4, locals := 97 }) (va_Pc [.ref (ad 0), .ref (ad (29 + 18 * tq)), .int (nI k)] (RW D cy (wd cy ad n M ++ []) A)) (va_Qi (S := Mm) (fun r u => bP (swP rs sr sc tq M k) r ∧ u = M) (fun u t => va_P D vwCl (wd cy ad n u ++ []) t.heap) A) 1 4 A := by
  refine Met.ofW (cc := cX5_isStoredWell) (maxL := 5) (ret := (some .boolean)) (by decide +kernel) rfl ?_
  intro p e s m args below meth c s₁ B hml hv
  obtain ⟨rfl, hP, hE, hA⟩ := hv
  have hx := B.exec
  have hb := B.bytes
  have hr := B.returns
  have hts := atoms_spec (ws := wsX5_isStoredWell) B.pre
  have hown : s.vm.findClass RX5 = some m.cls := findClass_of_methodNamed B.named
  have hlocks := B.notSynchronized
  have hf115 : (Cond.fieldLinkNest RX5 115 "RingPetition$Topic" "topicBase" "I" "RingPetition").before #[.ref (ad 0), .ref (ad (29 + 18 * tq)), .int (nI k)] s = true := va_Nw.use rfl (hE.2 _ (List.mem_of_getElem? (i := 16) rfl))
  have hf131 : (Cond.fieldLinkNest RX5 131 "RingPetition$Topic" "value" "I" "RingPetition").before #[.ref (ad 0), .ref (ad (29 + 18 * tq)), .int (nI k)] s = true := va_Nw.use rfl (hE.2 _ (List.mem_of_getElem? (i := 15) rfl))
  have hf141 : (Cond.fieldLinkNest RX5 141 "RingPetition$Signature" "numbers" "[I" "RingPetition").before #[.ref (ad 0), .ref (ad (29 + 18 * tq)), .int (nI k)] s = true := va_Nw.use rfl (hE.2 _ (List.mem_of_getElem? (i := 7) rfl))
  have hf18 : (Cond.fieldLink RX5 18 "RingPetition" "rings" "[LRingPetition$KeyRow;").before #[.ref (ad 0), .ref (ad (29 + 18 * tq)), .int (nI k)] s = true := hts _ (by decide +kernel)
  have hf186 : (Cond.fieldLinkNest RX5 186 "RingPetition$Topic" "stored" "[LRingPetition$Signature;" "RingPetition").before #[.ref (ad 0), .ref (ad (29 + 18 * tq)), .int (nI k)] s = true := va_Nw.use rfl (hE.2 _ (List.mem_of_getElem? (i := 18) rfl))
  have hf224 : (Cond.fieldLinkNest RX5 224 "RingPetition$Signature" "ringNumber" "I" "RingPetition").before #[.ref (ad 0), .ref (ad (29 + 18 * tq)), .int (nI k)] s = true := va_Nw.use rfl (hE.2 _ (List.mem_of_getElem? (i := 11) rfl))
  have hf227 : (Cond.fieldLinkNest RX5 227 "RingPetition$Signature" "motion" "I" "RingPetition").before #[.ref (ad 0), .ref (ad (29 + 18 * tq)), .int (nI k)] s = true := va_Nw.use rfl (hE.2 _ (List.mem_of_getElem? (i := 13) rfl))
  have hin_RX0 : ∀ w ∈ u_ws RX0 TX0 4, w ∈ wsX5_isStoredWell := by decide +kernel
  have hin_RX3 : ∀ w ∈ u_ws RX3 TX3 4, w ∈ wsX5_isStoredWell := by decide +kernel
  have hin_RX4 : ∀ w ∈ u_ws RX4 TX4 5, w ∈ wsX5_isStoredWell := by decide +kernel
  have hin_RX5 : ∀ w ∈ u_ws RX5 TX5 11, w ∈ wsX5_isStoredWell := by decide +kernel
  have hS : va_S A s.heap s.heap [] := va_S.rf
  have hl := lv_entry ([.ref (ad 0), .ref (ad (29 + 18 * tq)), .int (nI k)]) (n := 5) (Nat.le_of_ble_eq_true rfl)
  rw [lg_entry_eq]
  generalize (lg_sl ([.ref (ad 0), .ref (ad (29 + 18 * tq)), .int (nI k)]) ++ List.replicate (5 - (lg_sl ([.ref (ad 0), .ref (ad (29 + 18 * tq)), .int (nI k)])).length) Slot.unset).toArray = ls at hl ⊢
  have hl : lv_has ls 5 [(0, .ref (ad 0)), (1, .ref (ad (29 + 18 * tq))), (2, .int (nI k))] := hl
  obtain ⟨hsr, hsr8, hsz⟩ := hst k hk
  obtain ⟨hzz, hz6, hy⟩ := hrg (sr k) hsr8
  refine lv_aload_n hx hb dX5_isStoredWell_0 rfl (lv_at hl 1 rfl) ?_
  refine va_getN (D := D) (ci := 3) (v := .ref (ad (29 + 18 * tq + 1))) (C := RX4) (T := TX4) (N := 5) hx hb hts hin_RX4 hown hE.1 hP (29 + 18 * tq) (wd_at (M := M) (show 29 + 18 * tq < n by omega) ((tp_t cy ad (show tq < 6 by omega)).1 _)) rfl 3 (by decide) hf186 (fun _ h9 => h9) rfl dX5_isStoredWell_1 ?_
  refine lv_iload_n hx hb dX5_isStoredWell_4 rfl (lv_at hl 2 rfl) ?_
  refine wr_aldq (cy := cy) (ad := ad) (ex := []) hx hb hE.1 hP (29 + 18 * tq + 1) (show 29 + 18 * tq + 1 < n by omega) 4 ((tp_t cy ad (show tq < 6 by omega)).2.1 _) rfl k rfl (by omega) (by decide) dX5_isStoredWell_5 ?_
  refine lv_astore_n (lv' := [(3, .ref (ad (29 + 18 * tq + 2 + 2 * k))), (0, .ref (ad 0)), (1, .ref (ad (29 + 18 * tq))), (2, .int (nI k))]) hx hb dX5_isStoredWell_6 rfl hl (by decide) rfl (fun ls hl => ?_)
  refine wr_newC (cy := cy) (ad := ad) hx hb hts hin_RX0 hown (hts (.classLink RX5 129 RX0) (by decide +kernel)) (hts (.instantiable RX0 4) (by decide +kernel)) (hts (.initialized RX0) (by decide +kernel)) hE.1 hP (hD _) hS hA (Nat.le_of_ble_eq_true rfl) (Nat.le_of_ble_eq_true rfl) dX5_isStoredWell_7 (fun qc H hP hDq hS => ?_)
  refine lv_dup hx hb dX5_isStoredWell_10 rfl ?_
  refine lv_aload_n hx hb dX5_isStoredWell_11 rfl (lv_at hl 1 rfl) ?_
  refine va_get (D := D) (ci := 4) (v := .ref (ad 3)) (C := RX5) (T := TX5) (N := 11) hx hb hts hin_RX5 hown hE.1 hP 0 (wd_at (M := M) (show 0 < n by omega) ((g_0 cy ad) _)) rfl 1 (by decide) hf18 (fun _ h9 => h9) rfl dX5_isStoredWell_12 ?_
  refine lv_aload_n hx hb dX5_isStoredWell_15 rfl (lv_at hl 0 rfl) ?_
  refine va_getN (D := D) (ci := 2) (v := .int (M (29 + 18 * tq + 2 + 2 * k) 2)) (C := RX3) (T := TX3) (N := 4) hx hb hts hin_RX3 hown hE.1 hP (29 + 18 * tq + 2 + 2 * k) (wd_at (M := M) (show 29 + 18 * tq + 2 + 2 * k < n by omega) (((tp_t cy ad (show tq < 6 by omega)).2.2 k (by omega)).1 _)) rfl 2 (by decide) hf224 (fun _ h9 => h9) rfl dX5_isStoredWell_16 ?_
  refine wr_top (y := (nI (sr k))) hsr ?_
  refine wr_aldq (cy := cy) (ad := ad) (ex := [(qc, .inr (0, [.null, .int 0, .int 0, .int 0]))]) hx hb hE.1 hP 3 (show 3 < n by omega) 3 ((g_3 cy ad) _) rfl (sr k) rfl (by omega) (by decide) dX5_isStoredWell_19 ?_
  refine lv_aload_n hx hb dX5_isStoredWell_20 rfl (lv_at hl 2 rfl) ?_
  refine va_getN (D := D) (ci := 3) (v := .int (M (29 + 18 * tq) 0)) (C := RX4) (T := TX4) (N := 5) hx hb hts hin_RX4 hown hE.1 hP (29 + 18 * tq) (wd_at (M := M) (show 29 + 18 * tq < n by omega) ((tp_t cy ad (show tq < 6 by omega)).1 _)) rfl 0 (by decide) hf131 (fun _ h9 => h9) rfl dX5_isStoredWell_21 ?_
  refine lv_aload_n hx hb dX5_isStoredWell_24 rfl (lv_at hl 2 rfl) ?_
  refine va_getN (D := D) (ci := 3) (v := .int (M (29 + 18 * tq) 1)) (C := RX4) (T := TX4) (N := 5) hx hb hts hin_RX4 hown hE.1 hP (29 + 18 * tq) (wd_at (M := M) (show 29 + 18 * tq < n by omega) ((tp_t cy ad (show tq < 6 by omega)).1 _)) rfl 1 (by decide) hf115 (fun _ h9 => h9) rfl dX5_isStoredWell_25 ?_
  refine wr_top (y := (nI (tB (M (29 + 18 * tq) 0)))) hbt ?_
  refine lv_aload_n hx hb dX5_isStoredWell_28 rfl (lv_at hl 0 rfl) ?_
  refine va_getN (D := D) (ci := 2) (v := .int (M (29 + 18 * tq + 2 + 2 * k) 3)) (C := RX3) (T := TX3) (N := 4) hx hb hts hin_RX3 hown hE.1 hP (29 + 18 * tq + 2 + 2 * k) (wd_at (M := M) (show 29 + 18 * tq + 2 + 2 * k < n by omega) (((tp_t cy ad (show tq < 6 by omega)).2.2 k (by omega)).1 _)) rfl 3 (by decide) hf227 (fun _ h9 => h9) rfl dX5_isStoredWell_29 ?_
  refine va_callv (va_runI (As := [.ref (ad (13 + 2 * (sr k))), .int (M (29 + 18 * tq) 0), .int (nI (tB (M (29 + 18 * tq) 0))), .int (M (29 + 18 * tq + 2 + 2 * k) 3)]) (rest := [.ref qc]) ⟨hx, hb, hml, hown, hts⟩ (kX0_init l (ks := 13 + 2 * sr k) hDq) (cwI 4 hts ggX5_isStoredWell_X0_init rfl rfl rfl (hts (.initialized RX0) (by decide +kernel)) (hts (.methodLink RX5 134 yX0_init) (by decide +kernel)) (hts (.instanceMethod yX0_init) (by decide +kernel)) rfl (by decide +kernel) ⟨Nat.le_of_ble_eq_true rfl, Nat.le_of_ble_eq_true rfl⟩) (rw_ps hE hP hS hA) rfl rfl hl.1 rfl (lv_room (Nat.le_of_ble_eq_true rfl)) dX5_isStoredWell_32 ⟨Nat.le_of_ble_eq_true rfl, Nat.le_of_ble_eq_true rfl⟩) hS (fun q _ h => h) (fun q h => h) (fun u_32 t H1 locs ht hvm hr_32 hB_32 hz1 hk1 hS => ?_)
  have hP : va_P D vwCl (wd cy ad n M ++ [(qc, .inr (0, [.ref (ad (13 + 2 * (sr k))), .int (M (29 + 18 * tq) 0), .int (nI (tB (M (29 + 18 * tq) 0))), .int (M (29 + 18 * tq + 2 + 2 * k) 3)]))]) H1 := by rw [← ht]; exact hB_32
  clear hB_32 ht hvm hz1 hk1 hr_32
  generalize H1 = H at hP hS ⊢
  have hDc : ∀ M9, va_D A (wd cy ad n M9 ++ [(qc, .inr (0, [.ref (ad (13 + 2 * (sr k))), .int (M (29 + 18 * tq) 0), .int (nI (tB (M (29 + 18 * tq) 0))), .int (M (29 + 18 * tq + 2 + 2 * k) 3)]))]) := fun _ => wd_Dx hDq
  refine lv_astore (lv' := [(4, .ref qc), (3, .ref (ad (29 + 18 * tq + 2 + 2 * k))), (0, .ref (ad 0)), (1, .ref (ad (29 + 18 * tq))), (2, .int (nI k))]) hx hb dX5_isStoredWell_35 hl (by decide) rfl (fun ls hl => ?_)
  refine lv_aload hx hb dX5_isStoredWell_37 (lv_at hl 0 rfl) ?_
  refine lv_aload_n hx hb dX5_isStoredWell_39 rfl (lv_at hl 1 rfl) ?_
  refine vp_callSi (W.runV (As := [.ref (ad (29 + 18 * tq + 2 + 2 * k))]) (rest := []) ⟨hx, hb, hml, hown, hts⟩ (kX0_isProvedBy l (kr_r cy ad (show sr k < 8 by omega)) (by omega) (by omega) hzz hz6 (sg_s cy ad ht6 (show k < 8 by omega)) (by omega) (by omega) hy (tB_lt _)) (cwV 1 hts gX5_isStoredWell_X0_isProvedBy rfl rfl rfl (by decide +kernel) ⟨Nat.le_of_ble_eq_true rfl, Nat.le_of_ble_eq_true rfl⟩) (ro_pv (ci := 0) (q := (RX0, TX0, 4)) hE hP rfl wd_ex) rfl rfl hl.1 rfl (lv_room (Nat.le_of_ble_eq_true rfl)) dX5_isStoredWell_40 ⟨Nat.le_of_ble_eq_true rfl, Nat.le_of_ble_eq_true rfl⟩) (fun r_40 hr_40 => ?_)
  rcases hr_40 with ⟨hq_40, rfl⟩ | ⟨hq_40, rfl⟩
  · refine lv_if_eq (tgt := 64) hx hb dX5_isStoredWell_43 (by decide) (fun c_43 => ?_) (fun c_43 => ?_)
    · exact absurd c_43 (by decide)
    · have c_43 := mt (o_eq0 _).mpr c_43
      refine lv_aload_n hx hb dX5_isStoredWell_46 rfl (lv_at hl 3 rfl) ?_
      refine lv_iload_n hx hb dX5_isStoredWell_47 rfl (lv_at hl 4 rfl) ?_
      refine lv_aload_n hx hb dX5_isStoredWell_48 rfl (lv_at hl 1 rfl) ?_
      refine va_getN (D := D) (ci := 2) (v := .ref (ad (29 + 18 * tq + 2 + 2 * k + 1))) (C := RX3) (T := TX3) (N := 4) hx hb hts hin_RX3 hown hE.1 hP (29 + 18 * tq + 2 + 2 * k) (wd_at (M := M) (show 29 + 18 * tq + 2 + 2 * k < n by omega) (((tp_t cy ad (show tq < 6 by omega)).2.2 k (by omega)).1 _)) rfl 0 (by decide) hf141 (fun _ h9 => h9) rfl dX5_isStoredWell_49 ?_
      refine lv_iconst (v := (nI 1)) hx hb dX5_isStoredWell_52 (by decide) ?_
      refine wr_ald (cy := cy) (ad := ad) (ex := [(qc, .inr (0, [.ref (ad (13 + 2 * (sr k))), .int (M (29 + 18 * tq) 0), .int (nI (tB (M (29 + 18 * tq) 0))), .int (M (29 + 18 * tq + 2 + 2 * k) 3)]))]) hx hb hE.1 hP (29 + 18 * tq + 2 + 2 * k + 1) (show 29 + 18 * tq + 2 + 2 * k + 1 < n by omega) (((tp_t cy ad (show tq < 6 by omega)).2.2 k (by omega)).2 _) 1 rfl (by omega) (by decide) dX5_isStoredWell_53 ?_
      refine vp_callSi (W.runV (As := [.int (nI k), .int (M (29 + 18 * tq + 2 + 2 * k + 1) 1)]) (rest := []) ⟨hx, hb, hml, hown, hts⟩ (kX4_hasAmongFirst l (tp_t cy ad ht6) (by omega) hsc hsc8 (by omega)) (cwV 2 hts gX5_isStoredWell_X4_hasAmongFirst rfl rfl rfl (by decide +kernel) ⟨Nat.le_of_ble_eq_true rfl, Nat.le_of_ble_eq_true rfl⟩) (ro_pv (ci := 3) (q := (RX4, TX4, 5)) hE hP rfl (wd_at (M := M) (show 29 + 18 * tq < n by omega) ((tp_t cy ad (show tq < 6 by omega)).1 _))) rfl rfl hl.1 rfl (lv_room (Nat.le_of_ble_eq_true rfl)) dX5_isStoredWell_54 ⟨Nat.le_of_ble_eq_true rfl, Nat.le_of_ble_eq_true rfl⟩) (fun r_54 hr_54 => ?_)
      rcases hr_54 with ⟨hq_54, rfl⟩ | ⟨hq_54, rfl⟩
      · refine lv_if_ne (tgt := 64) hx hb dX5_isStoredWell_57 (by decide) (fun c_57 => ?_) (fun c_57 => ?_)
        · have c_57 := mt (o_eq0 _).mpr c_57
          refine lv_iconst (v := (nI 0)) hx hb dX5_isStoredWell_64 (by decide) ?_
          exact W.zret (v := (nI 0)) hx hb hr rfl (fun t ht hW => ⟨⟨(nI 0), M, rfl, ⟨(bP_0 (fun h => h.2 hq_54)), rfl⟩, (by show va_P D vwCl _ t.heap; rw [ht]; exact va_pre hP)⟩, hS.F ht⟩) hS.2.2 dX5_isStoredWell_65
        · exact absurd c_57 (by decide)
      · refine lv_if_ne (tgt := 64) hx hb dX5_isStoredWell_57 (by decide) (fun c_57 => ?_) (fun c_57 => ?_)
        · exact absurd c_57 (by decide)
        · have c_57 := (o_eq0 _).mp c_57
          refine lv_iconst (v := (nI 1)) hx hb dX5_isStoredWell_60 (by decide) ?_
          refine lv_goto (tgt := 65) hx hb dX5_isStoredWell_61 (by decide) ?_
          exact W.zret (v := (nI 1)) hx hb hr rfl (fun t ht hW => ⟨⟨(nI 1), M, rfl, ⟨(bP_1 ⟨hq_40.2, hq_54⟩), rfl⟩, (by show va_P D vwCl _ t.heap; rw [ht]; exact va_pre hP)⟩, hS.F ht⟩) hS.2.2 dX5_isStoredWell_65
  · refine lv_if_eq (tgt := 64) hx hb dX5_isStoredWell_43 (by decide) (fun c_43 => ?_) (fun c_43 => ?_)
    · have c_43 := (o_eq0 _).mp c_43
      refine lv_iconst (v := (nI 0)) hx hb dX5_isStoredWell_64 (by decide) ?_
      exact W.zret (v := (nI 0)) hx hb hr rfl (fun t ht hW => ⟨⟨(nI 0), M, rfl, ⟨(bP_0 (fun h => hq_40 ⟨hsz, h.1⟩)), rfl⟩, (by show va_P D vwCl _ t.heap; rw [ht]; exact va_pre hP)⟩, hS.F ht⟩) hS.2.2 dX5_isStoredWell_65
    · exact absurd c_43 (by decide)
