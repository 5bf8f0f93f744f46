set_option maxHeartbeats 4000000 in
set_option maxRecDepth 100000 in
/-- endOfGoodSignatures -/
theorem kX5_endOfGoodSignatures (l : Launch) {D : va_G} {cy ad : Nat → Nat} {n : Nat} {M : Mm} {A : Nat → Prop} (hD : ∀ M, va_D A (wd cy ad n M ++ [])) (hn : 137 ≤ n) {mm b0 : Nat} (hmm : mm ≤ 8) (hb0 : M 0 7 = nI b0) (hb1 : b0 ≤ 200) : Met l yX5_endOfGoodSignatures wsX5_endOfGoodSignatures ({ frames := 5, cells := 8, slots := 32, locals := 124 }) (va_Pc [.ref (ad 0), .int (nI mm)] (RW D cy (wd cy ad n M ++ []) A)) (va_Qi (S := Mm) (fun r u => (((∀ k, k < mm → okK (M 7) b0 (M 7 0) (tB (M 7 0)) k) ∧ r = nI (coN (M 7) mm)) ∨ (¬ (∀ k, k < mm → okK (M 7) b0 (M 7 0) (tB (M 7 0)) k) ∧ r = (-1))) ∧ scP M u) (fun u t => va_P D vwCl (wd cy ad n u ++ []) t.heap) A) 8 32 A := by
  refine Met.ofW (cc := cX5_endOfGoodSignatures) (maxL := 6) (ret := (some .int)) (by decide +kernel) rfl ?_
  intro p e s m args below meth c s₁ B hml hv
  obtain ⟨rfl, hP, hE, hA⟩ := hv
  have hx := B.exec
  have hb := B.bytes
  have hr := B.returns
  have hts := atoms_spec (ws := wsX5_endOfGoodSignatures) B.pre
  have hown : s.vm.findClass RX5 = some m.cls := findClass_of_methodNamed B.named
  have hlocks := B.notSynchronized
  have hf141 : (Cond.fieldLinkNest RX5 141 "RingPetition$Signature" "numbers" "[I" "RingPetition").before #[.ref (ad 0), .int (nI mm)] s = true := va_Nw.use rfl (hE.2 _ (List.mem_of_getElem? (i := 7) rfl))
  have hf42 : (Cond.fieldLink RX5 42 "RingPetition" "bundled" "[I").before #[.ref (ad 0), .int (nI mm)] s = true := hts _ (by decide +kernel)
  have hf52 : (Cond.fieldLink RX5 52 "RingPetition" "readSignature" "LRingPetition$Signature;").before #[.ref (ad 0), .int (nI mm)] s = true := hts _ (by decide +kernel)
  have hf55 : (Cond.fieldLink RX5 55 "RingPetition" "readTags" "[I").before #[.ref (ad 0), .int (nI mm)] s = true := hts _ (by decide +kernel)
  have hin_RX3 : ∀ w ∈ u_ws RX3 TX3 4, w ∈ wsX5_endOfGoodSignatures := by decide +kernel
  have hin_RX5 : ∀ w ∈ u_ws RX5 TX5 11, w ∈ wsX5_endOfGoodSignatures := by decide +kernel
  have hS : va_S A s.heap s.heap [] := va_S.rf
  have hl := lv_entry ([.ref (ad 0), .int (nI mm)]) (n := 6) (Nat.le_of_ble_eq_true rfl)
  rw [lg_entry_eq]
  generalize (lg_sl ([.ref (ad 0), .int (nI mm)]) ++ List.replicate (6 - (lg_sl ([.ref (ad 0), .int (nI mm)])).length) Slot.unset).toArray = ls at hl ⊢
  have hl : lv_has ls 6 [(0, .ref (ad 0)), (1, .int (nI mm))] := hl
  refine lv_aload_n hx hb dX5_endOfGoodSignatures_0 rfl (lv_at hl 0 rfl) ?_
  refine va_get (D := D) (ci := 4) (v := .ref (ad 7)) (C := RX5) (T := TX5) (N := 11) hx hb hts hin_RX5 hown hE.1 hP 0 (wd_at (M := M) (show 0 < n by omega) ((g_0 cy ad) _)) rfl 6 (by decide) hf42 (fun _ h9 => h9) rfl dX5_endOfGoodSignatures_1 ?_
  refine lv_iconst (v := (nI 0)) hx hb dX5_endOfGoodSignatures_4 (by decide) ?_
  refine wr_ald (cy := cy) (ad := ad) (ex := []) hx hb hE.1 hP 7 (show 7 < n by omega) ((g_7 cy ad) _) 0 rfl (by omega) (by decide) dX5_endOfGoodSignatures_5 ?_
  refine vp_callSi (W.runS (As := [.int (M 7 0)]) (rest := []) ⟨hx, hb, hml, hown, hts⟩ (kX2_topicBase l) (va_cwS 1 hts gX5_endOfGoodSignatures_X2_topicBase rfl rfl rfl (by decide +kernel) ⟨Nat.le_of_ble_eq_true rfl, Nat.le_of_ble_eq_true rfl⟩) pu_ps rfl rfl hl.1 rfl (lv_room (Nat.le_of_ble_eq_true rfl)) dX5_endOfGoodSignatures_6 ⟨Nat.le_of_ble_eq_true rfl, Nat.le_of_ble_eq_true rfl⟩) (fun r_6 hr_6 => ?_)
  subst hr_6
  refine lv_istore_n (lv' := [(2, .int (nI (tB (M 7 0)))), (0, .ref (ad 0)), (1, .int (nI mm))]) hx hb dX5_endOfGoodSignatures_9 rfl hl (by decide) rfl (fun ls hl => ?_)
  refine lv_iconst (v := (nI 2)) hx hb dX5_endOfGoodSignatures_10 (by decide) ?_
  refine lv_istore_n (lv' := [(3, .int (nI 2)), (2, .int (nI (tB (M 7 0)))), (0, .ref (ad 0)), (1, .int (nI mm))]) hx hb dX5_endOfGoodSignatures_11 rfl hl (by decide) rfl (fun ls hl => ?_)
  refine lv_iconst (v := (nI 0)) hx hb dX5_endOfGoodSignatures_12 (by decide) ?_
  refine lv_istore (lv' := [(4, .int (nI 0)), (3, .int (nI 2)), (2, .int (nI (tB (M 7 0)))), (0, .ref (ad 0)), (1, .int (nI mm))]) hx hb dX5_endOfGoodSignatures_13 hl (by decide) rfl (fun ls hl => ?_)
  refine wloopA (fun kq (xq : Nat × Mm) H locs cc9 ss9 ls => match xq with | (k, Mk) => kq = mm - k ∧ (k ≤ mm ∧ scP M Mk ∧ (∀ j, j < k → okK (M 7) b0 (M 7 0) (tB (M 7 0)) j) ∧ (∀ j, j < k → Mk 12 j = tgN (M 7) j) ∧ coN (M 7) k ≤ 200 ∧ cc9 ≤ k ∧ ss9 ≤ 4 * k) ∧ va_P D vwCl (wd cy ad n Mk ++ []) H ∧ va_S A s.heap H locs ∧ lv_has ls 6 [(4, .int (nI k)), (0, .ref (ad 0)), (1, .int (nI mm)), (2, .int (nI (tB (M 7 0)))), (3, .int (nI (coN (M 7) k)))]) (fun k15 x15 H locs cc9 ss9 ls h15 ih15 => ?_) _ (0, M) _ _ _ _ ls ⟨rfl, ⟨Nat.zero_le _, fun _ _ _ _ _ _ => rfl, fun j h => absurd h (Nat.not_lt_zero j), fun j h => absurd h (Nat.not_lt_zero j), (show 2 ≤ 200 by decide), Nat.le_refl _, Nat.le_refl _⟩, hP, hS, lv_sub hl [0, 3, 4, 2, 1] rfl⟩
  obtain ⟨k, Mk⟩ := x15
  obtain ⟨hk15, hI, hP, hS, hl⟩ := h15
  refine lv_iload hx hb dX5_endOfGoodSignatures_15 (lv_at hl 0 rfl) ?_
  refine lv_iload_n hx hb dX5_endOfGoodSignatures_17 rfl (lv_at hl 2 rfl) ?_
  refine lv_icmp_ge (tgt := 75) hx hb dX5_endOfGoodSignatures_18 (by decide) (fun c_18 => ?_) (fun c_18 => ?_)
  · have c_18 := (nI_leI (by omega) (by omega)).mp c_18
    refine lv_iload_n hx hb dX5_endOfGoodSignatures_75 rfl (lv_at hl 4 rfl) ?_
    refine W.widen (k := 8) (n := 32) (by omega) (by omega) ?_
    exact W.iret (v := (nI (coN (M 7) k))) hx hb hr (fun t ht hW => ⟨⟨(nI (coN (M 7) k)), Mk, rfl, ⟨Or.inl ⟨fun j hj => hI.2.2.1 j (by omega), by rw [show mm = k by omega]⟩, hI.2.1⟩, (by show va_P D vwCl _ t.heap; rw [ht]; exact hP)⟩, hS.F ht⟩) hS.2.2 dX5_endOfGoodSignatures_76
  · have c_18 := mt (nI_leI (by omega) (by omega)).mpr c_18
    refine lv_aload_n hx hb dX5_endOfGoodSignatures_21 rfl (lv_at hl 1 rfl) ?_
    refine lv_iload_n hx hb dX5_endOfGoodSignatures_22 rfl (lv_at hl 4 rfl) ?_
    refine lv_iload_n hx hb dX5_endOfGoodSignatures_23 rfl (lv_at hl 3 rfl) ?_
    have e7 : Mk 7 = M 7 := hI.2.1 7 (by decide) (by decide) (by decide) (by decide) (by decide)
    have hcl : cc9 + 1 ≤ 8 := by omega
    have hcs : ss9 + 4 ≤ 32 := by omega
    refine va_calli (va_runV (As := [.int (nI (coN (M 7) k)), .int (nI (tB (M 7 0)))]) (rest := []) ⟨hx, hb, hml, hown, hts⟩ (kX5_endOfGoodSignature l (M := Mk) hD hn (by rw [hI.2.1 0 (by decide) (by decide) (by decide) (by decide) (by decide)]; exact hb0) hb1 hI.2.2.2.2.1 (tB_lt _)) (cwV 2 hts gX5_endOfGoodSignatures_X5_endOfGoodSignature rfl rfl rfl (by decide +kernel) ⟨Nat.le_of_ble_eq_true rfl, Nat.le_of_ble_eq_true rfl⟩) (rw_pv (ci := 4) (q := (RX5, TX5, 11)) hE hP hS hA rfl (wd_at (M := Mk) (show 0 < n by omega) ((g_0 cy ad) _))) rfl rfl hl.1 rfl (lv_room (Nat.le_of_ble_eq_true rfl)) dX5_endOfGoodSignatures_24 ⟨hcl, hcs⟩) hS (fun q _ h => h) (fun q h => h) (fun r_24 u_24 t H1 locs ht hvm hr_24 hB_24 hz1 hk1 hS => ?_)
    have hP : va_P D vwCl (wd cy ad n u_24 ++ []) H1 := by rw [← ht]; exact hB_24
    clear hB_24 ht hvm hz1 hk1
    generalize H1 = H at hP hS ⊢
    rw [e7] at hr_24
    obtain ⟨hr_24, hsq⟩ := hr_24
    have hsc : scP M u_24 := fun a a8 a9 a10 a11 a12 => (hsq a a8 a9 a10 a11).trans (hI.2.1 a a8 a9 a10 a11 a12)
    rcases hr_24 with ⟨hok, rfl, htag⟩ | ⟨hno, rfl⟩
    · refine lv_istore_n (lv' := [(3, .int (nI (coN (M 7) (k + 1)))), (4, .int (nI k)), (0, .ref (ad 0)), (1, .int (nI mm)), (2, .int (nI (tB (M 7 0))))]) hx hb dX5_endOfGoodSignatures_27 rfl hl (by decide) rfl (fun ls hl => ?_)
      refine lv_aload_n hx hb dX5_endOfGoodSignatures_28 rfl (lv_at hl 2 rfl) ?_
      refine va_get (D := D) (ci := 4) (v := .ref (ad 10)) (C := RX5) (T := TX5) (N := 11) hx hb hts hin_RX5 hown hE.1 hP 0 (wd_at (M := u_24) (show 0 < n by omega) ((g_0 cy ad) _)) rfl 9 (by decide) hf52 (fun _ h9 => h9) rfl dX5_endOfGoodSignatures_29 ?_
      refine va_getN (D := D) (ci := 2) (v := .ref (ad (10 + 1))) (C := RX3) (T := TX3) (N := 4) hx hb hts hin_RX3 hown hE.1 hP 10 (wd_at (M := u_24) (show 10 < n by omega) ((sg_10 cy ad).1 _)) rfl 0 (by decide) hf141 (fun _ h9 => h9) rfl dX5_endOfGoodSignatures_32 ?_
      refine lv_iconst (v := (nI 1)) hx hb dX5_endOfGoodSignatures_35 (by decide) ?_
      refine wr_ald (cy := cy) (ad := ad) (ex := []) hx hb hE.1 hP (10 + 1) (show 10 + 1 < n by omega) ((sg_10 cy ad).2 _) 1 rfl (by omega) (by decide) dX5_endOfGoodSignatures_36 ?_
      refine lv_istore (lv' := [(5, .int (u_24 (10 + 1) 1)), (3, .int (nI (coN (M 7) (k + 1)))), (4, .int (nI k)), (0, .ref (ad 0)), (1, .int (nI mm)), (2, .int (nI (tB (M 7 0))))]) hx hb dX5_endOfGoodSignatures_37 hl (by decide) rfl (fun ls hl => ?_)
      refine lv_iload_n hx hb dX5_endOfGoodSignatures_39 rfl (lv_at hl 1 rfl) ?_
      refine lv_iconst (v := (-1)) hx hb dX5_endOfGoodSignatures_40 (by decide) ?_
      refine lv_icmp_eq (tgt := 58) hx hb dX5_endOfGoodSignatures_41 (by decide) (fun c_41 => ?_) (fun c_41 => ?_)
      · exact absurd c_41 (by intro h9; have h8 := congrArg Int32.toInt h9; rw [nI_toInt (show coN (M 7) (k + 1) < 2 ^ 31 by have := hok.2.2.2.1; show coN (M 7) k + 4 + 2 * pkN (M 7) (coN (M 7) k) < _; omega), show ((-1 : Int32)).toInt = -1 by decide] at h8; omega)
      · have h12 : ∀ j, j < k → u_24 12 j = tgN (M 7) j := fun j hj => by rw [hsq 12 (by decide) (by decide) (by decide) (by decide)]; exact hI.2.2.2.1 j hj
        rw [show u_24 (10 + 1) 1 = tgN (M 7) k from htag] at hl
        refine lv_iload hx hb dX5_endOfGoodSignatures_44 (lv_at hl 2 rfl) ?_
        refine lv_aload_n hx hb dX5_endOfGoodSignatures_46 rfl (lv_at hl 3 rfl) ?_
        refine va_get (D := D) (ci := 4) (v := .ref (ad 12)) (C := RX5) (T := TX5) (N := 11) hx hb hts hin_RX5 hown hE.1 hP 0 (wd_at (M := u_24) (show 0 < n by omega) ((g_0 cy ad) _)) rfl 10 (by decide) hf55 (fun _ h9 => h9) rfl dX5_endOfGoodSignatures_47 ?_
        refine lv_iload hx hb dX5_endOfGoodSignatures_50 (lv_at hl 0 rfl) ?_
        refine vp_callSi (W.runS (As := [.int (nI k), .ref (ad 12), .int (tgN (M 7) k)]) (rest := []) ⟨hx, hb, hml, hown, hts⟩ (kX2_isAmongFirst l (k0 := 12) (by omega) (g_12 cy ad) (by omega) (by decide)) (va_cwS 3 hts gX5_endOfGoodSignatures_X2_isAmongFirst rfl rfl rfl (by decide +kernel) ⟨Nat.le_of_ble_eq_true rfl, Nat.le_of_ble_eq_true rfl⟩) (ro_ps hE hP) rfl rfl hl.1 rfl (lv_room (Nat.le_of_ble_eq_true rfl)) dX5_endOfGoodSignatures_52 ⟨hcl, hcs⟩) (fun r_52 hr_52 => ?_)
        rcases hr_52 with ⟨hq_52, rfl⟩ | ⟨hq_52, rfl⟩
        · refine lv_if_eq (tgt := 60) hx hb dX5_endOfGoodSignatures_55 (by decide) (fun c_55 => ?_) (fun c_55 => ?_)
          · exact absurd c_55 (by decide)
          · have c_55 := mt (o_eq0 _).mpr c_55
            refine lv_iconst (v := (-1)) hx hb dX5_endOfGoodSignatures_58 (by decide) ?_
            refine W.widen (k := 8) (n := 32) (by omega) (by omega) ?_
            exact W.iret (v := (-1)) hx hb hr (fun t ht hW => ⟨⟨(-1), u_24, rfl, ⟨Or.inr ⟨fun h => by obtain ⟨q, hq, e9⟩ := hq_52; exact (h k (by omega)).2 q hq ((h12 q hq).symm.trans e9), rfl⟩, hsc⟩, (by show va_P D vwCl _ t.heap; rw [ht]; exact hP)⟩, hS.F ht⟩) hS.2.2 dX5_endOfGoodSignatures_59
        · refine lv_if_eq (tgt := 60) hx hb dX5_endOfGoodSignatures_55 (by decide) (fun c_55 => ?_) (fun c_55 => ?_)
          · have c_55 := (o_eq0 _).mp c_55
            refine lv_aload_n hx hb dX5_endOfGoodSignatures_60 rfl (lv_at hl 3 rfl) ?_
            refine va_get (D := D) (ci := 4) (v := .ref (ad 12)) (C := RX5) (T := TX5) (N := 11) hx hb hts hin_RX5 hown hE.1 hP 0 (wd_at (M := u_24) (show 0 < n by omega) ((g_0 cy ad) _)) rfl 10 (by decide) hf55 (fun _ h9 => h9) rfl dX5_endOfGoodSignatures_61 ?_
            refine lv_iload hx hb dX5_endOfGoodSignatures_64 (lv_at hl 2 rfl) ?_
            refine lv_iload hx hb dX5_endOfGoodSignatures_66 (lv_at hl 0 rfl) ?_
            refine wr_ast (cy := cy) (ad := ad) (ex := []) hx hb hE.1 hP hD hS 12 (show 12 < n by omega) (g_12 cy ad) k rfl (by omega) (by decide) dX5_endOfGoodSignatures_68 (fun H locs hP hS => ?_)
            refine lv_iinc (v := (nI (k + 1))) (lv' := [(4, .int (nI (k + 1))), (5, .int (tgN (M 7) k)), (3, .int (nI (coN (M 7) (k + 1)))), (0, .ref (ad 0)), (1, .int (nI mm)), (2, .int (nI (tB (M 7 0))))]) hx hb dX5_endOfGoodSignatures_69 hl (k := 2) rfl (nI_1 _) (by decide) rfl (fun ls hl => ?_)
            refine lv_goto (tgt := 15) hx hb dX5_endOfGoodSignatures_72 (by decide) ?_
            exact ih15 _ (k + 1, (st u_24 12 k (tgN (M 7) k))) _ _ _ _ _ (by omega) ⟨rfl, ⟨by omega, fun a a8 a9 a10 a11 a12 => by rw [st_r _ _ _ a12]; exact hsc a a8 a9 a10 a11 a12, fun j hj => by rcases Nat.lt_or_ge j k with h | h <;> first | exact hI.2.2.1 j h | (rw [show j = k by omega]; exact ⟨hok, fun q hq e9 => hq_52 ⟨q, hq, (h12 q hq).trans e9⟩⟩), fun j hj => by rcases Nat.lt_or_ge j k with h | h <;> first | (rw [st_c _ _ _ (show j ≠ k by omega)]; exact h12 j h) | (rw [show j = k by omega, st_s]), by have := hok.2.2.2.1; show coN (M 7) k + 4 + 2 * pkN (M 7) (coN (M 7) k) ≤ 200; omega, by omega, by omega⟩, hP, hS, lv_sub hl [0, 3, 4, 5, 2] rfl⟩
          · exact absurd c_55 (by decide)
    · refine lv_istore_n (lv' := [(3, .int (-1)), (4, .int (nI k)), (0, .ref (ad 0)), (1, .int (nI mm)), (2, .int (nI (tB (M 7 0))))]) hx hb dX5_endOfGoodSignatures_27 rfl hl (by decide) rfl (fun ls hl => ?_)
      refine lv_aload_n hx hb dX5_endOfGoodSignatures_28 rfl (lv_at hl 2 rfl) ?_
      refine va_get (D := D) (ci := 4) (v := .ref (ad 10)) (C := RX5) (T := TX5) (N := 11) hx hb hts hin_RX5 hown hE.1 hP 0 (wd_at (M := u_24) (show 0 < n by omega) ((g_0 cy ad) _)) rfl 9 (by decide) hf52 (fun _ h9 => h9) rfl dX5_endOfGoodSignatures_29 ?_
      refine va_getN (D := D) (ci := 2) (v := .ref (ad (10 + 1))) (C := RX3) (T := TX3) (N := 4) hx hb hts hin_RX3 hown hE.1 hP 10 (wd_at (M := u_24) (show 10 < n by omega) ((sg_10 cy ad).1 _)) rfl 0 (by decide) hf141 (fun _ h9 => h9) rfl dX5_endOfGoodSignatures_32 ?_
      refine lv_iconst (v := (nI 1)) hx hb dX5_endOfGoodSignatures_35 (by decide) ?_
      refine wr_ald (cy := cy) (ad := ad) (ex := []) hx hb hE.1 hP (10 + 1) (show 10 + 1 < n by omega) ((sg_10 cy ad).2 _) 1 rfl (by omega) (by decide) dX5_endOfGoodSignatures_36 ?_
      refine lv_istore (lv' := [(5, .int (u_24 (10 + 1) 1)), (3, .int (-1)), (4, .int (nI k)), (0, .ref (ad 0)), (1, .int (nI mm)), (2, .int (nI (tB (M 7 0))))]) hx hb dX5_endOfGoodSignatures_37 hl (by decide) rfl (fun ls hl => ?_)
      refine lv_iload_n hx hb dX5_endOfGoodSignatures_39 rfl (lv_at hl 1 rfl) ?_
      refine lv_iconst (v := (-1)) hx hb dX5_endOfGoodSignatures_40 (by decide) ?_
      refine lv_icmp_eq (tgt := 58) hx hb dX5_endOfGoodSignatures_41 (by decide) (fun c_41 => ?_) (fun c_41 => ?_)
      · refine lv_iconst (v := (-1)) hx hb dX5_endOfGoodSignatures_58 (by decide) ?_
        refine W.widen (k := 8) (n := 32) (by omega) (by omega) ?_
        exact W.iret (v := (-1)) hx hb hr (fun t ht hW => ⟨⟨(-1), u_24, rfl, ⟨Or.inr ⟨fun h => hno (h k (by omega)).1, rfl⟩, hsc⟩, (by show va_P D vwCl _ t.heap; rw [ht]; exact hP)⟩, hS.F ht⟩) hS.2.2 dX5_endOfGoodSignatures_59
      · exact absurd c_41 (by decide)
