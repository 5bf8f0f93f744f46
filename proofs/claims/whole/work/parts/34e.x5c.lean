set_option maxHeartbeats 4000000 in
set_option maxRecDepth 100000 in
/-- recount -/
theorem kX5_recount (l : Launch) (hlt : l.stackTraces = false) {D : va_G} {cy ad : Nat → Nat} {n : Nat} {M : Mm} {A : Nat → Prop} (hD : ∀ M, va_D A (wd cy ad n M ++ [])) (hn : 137 ≤ n) {rc tc sc : Nat} {rs sr : Nat → Nat} {tp : Int32} (hrc8 : rc ≤ 8) (htc : M 0 4 = nI tc) (htc6 : tc ≤ 6) (hrg : rgP rc rs M) (hbs : bsP tc M) (hsc : M (29 + 18 * vN tp) 4 = nI sc) (hsc8 : sc ≤ 8) (hst : stP rc rs sr sc (vN tp) M) : vx_Met l yX5_recount wsX5_recount ({ frames := 7, cells := 9, slots := 38, locals := 121 }) (va_Pc [.ref (ad 0), .int tp] (TW D cy (wd cy ad n M ++ []) A)) (va_Qi (S := Mm) (fun r u => 0 ≤ tp.toInt ∧ tp.toInt < (tc : Int) ∧ (((∀ k, k < sc → swP rs sr sc (vN tp) M k) ∧ r = nI sc) ∨ (∃ k, k < sc ∧ ¬ swP rs sr sc (vN tp) M k ∧ (∀ j, j < k → swP rs sr sc (vN tp) M j) ∧ r = (-1) - nI k)) ∧ u = M) (fun u t => va_P D vwCl (wd cy ad n u ++ []) t.heap) A) (vx_X (S := Mm) (fun _ => True) (fun E u t => (E = "java/lang/IllegalArgumentException" ∧ (tp.toInt < 0 ∨ (tc : Int) ≤ tp.toInt) ∧ u = M) ∧ va_P D vwCl (wd cy ad n u ++ []) t.heap) A) 9 38 A := by
  refine vx_ofW (cc := cX5_recount) (maxL := 4) (ret := (some .int)) (by decide) rfl ?_
  intro p e s m args below meth c s₁ B hml htab hv
  obtain ⟨rfl, hP, hE, hA, hX⟩ := hv
  have hx := B.exec
  have hb := B.bytes
  have hr := B.returns
  have hts := atoms_spec (ws := wsX5_recount) B.pre
  have hown : s.vm.findClass RX5 = some m.cls := findClass_of_methodNamed B.named
  have hlocks := B.notSynchronized
  have hf164 : (Cond.fieldLinkNest RX5 164 "RingPetition$Topic" "storedCount" "I" "RingPetition").before #[.ref (ad 0), .int tp] s = true := va_Nw.use rfl (hE.2 _ (List.mem_of_getElem? (i := 19) rfl))
  have hin_RX4 : ∀ w ∈ u_ws RX4 TX4 5, w ∈ wsX5_recount := by decide +kernel
  have hS : va_S A s.heap s.heap [] := va_S.rf
  have hl := lv_entry ([.ref (ad 0), .int tp]) (n := 4) (Nat.le_of_ble_eq_true rfl)
  rw [lg_entry_eq]
  generalize (lg_sl ([.ref (ad 0), .int tp]) ++ List.replicate (4 - (lg_sl ([.ref (ad 0), .int tp])).length) Slot.unset).toArray = ls at hl ⊢
  have hl : lv_has ls 4 [(0, .ref (ad 0)), (1, .int tp)] := hl
  refine lv_aload_n hx hb dX5_recount_0 rfl (lv_at hl 0 rfl) ?_
  refine lv_iload_n hx hb dX5_recount_1 rfl (lv_at hl 1 rfl) ?_
  refine vx_callq (vx_runV (As := [.int tp]) (rest := []) ⟨hx, hb, hml, hown, hts⟩ (kX5_knownTopic l hlt hD hn htc htc6) (cwV 1 hts gX5_recount_X5_knownTopic rfl rfl rfl (by decide +kernel) ⟨Nat.le_of_ble_eq_true rfl, Nat.le_of_ble_eq_true rfl⟩) (tw_pv (ci := 4) (q := (RX5, TX5, 11)) hE hP hS hA hX rfl (wd_at (M := M) (show 0 < n by omega) ((g_0 cy ad) _))) rfl rfl hl.1 rfl (lv_room (Nat.le_of_ble_eq_true rfl)) dX5_recount_2 ⟨Nat.le_of_ble_eq_true rfl, Nat.le_of_ble_eq_true rfl⟩) hS (fun q _ h => h) (fun q h => h) (fun q _ h => h) (fun E9 ce q9 u t H1 locs1 ht hvm hpx hBX hz1 hk1 hS hce hcv hcl => ?_) (fun r_2 u_2 t H1 locs ht hvm hr_2 hB_2 hz1 hk1 hS => ?_)
  · exact vx_out (fun x h => (htab x h).elim) hlocks hce hcv hcl (fun t2 h1 h2 => ⟨u, trivial, ⟨⟨hBX.1.1, hBX.1.2.1, hBX.1.2.2⟩, by rw [h1, ← ht]; exact hBX.2⟩, hS.F h1⟩) hS.2.2 (Nat.le_of_ble_eq_true rfl) (Nat.le_of_ble_eq_true rfl)
  have hP : va_P D vwCl (wd cy ad n M ++ []) H1 := by rw [← ht]; exact hB_2
  clear hB_2 ht hvm hz1 hk1
  generalize H1 = H at hP hS ⊢
  obtain ⟨htp0, htp1, rfl⟩ := hr_2
  have ht6 : vN tp < tc := by rw [vN_toInt]; omega
  refine lv_astore_n (lv' := [(2, .ref (ad (29 + 18 * vN tp))), (0, .ref (ad 0)), (1, .int tp)]) hx hb dX5_recount_5 rfl hl (by decide) rfl (fun ls hl => ?_)
  refine lv_iconst (v := (nI 0)) hx hb dX5_recount_6 (by decide) ?_
  refine lv_istore_n (lv' := [(3, .int (nI 0)), (2, .ref (ad (29 + 18 * vN tp))), (0, .ref (ad 0)), (1, .int tp)]) hx hb dX5_recount_7 rfl hl (by decide) rfl (fun ls hl => ?_)
  refine wloopA (fun kq (xq : Nat) H locs cc9 ss9 ls => kq = sc - xq ∧ (xq ≤ sc ∧ cc9 ≤ 1 + xq ∧ ss9 ≤ 6 + 4 * xq ∧ ∀ j, j < xq → swP rs sr sc (vN tp) M j) ∧ va_P D vwCl (wd cy ad n M ++ []) H ∧ va_S A s.heap H locs ∧ lv_has ls 4 [(3, .int (nI xq)), (0, .ref (ad 0)), (1, .int tp), (2, .ref (ad (29 + 18 * vN tp)))]) (fun k8 i H locs cc9 ss9 ls h8 ih8 => ?_) _ 0 _ _ _ _ ls ⟨rfl, ⟨Nat.zero_le _, by omega, by omega, fun j h => absurd h (Nat.not_lt_zero j)⟩, hP, hS, lv_sub hl [0, 2, 3, 1] rfl⟩
  obtain ⟨hk8, hI, hP, hS, hl⟩ := h8
  refine lv_iload_n hx hb dX5_recount_8 rfl (lv_at hl 0 rfl) ?_
  refine lv_aload_n hx hb dX5_recount_9 rfl (lv_at hl 3 rfl) ?_
  refine va_getN (D := D) (ci := 3) (v := .int (M (29 + 18 * vN tp) 4)) (C := RX4) (T := TX4) (N := 5) hx hb hts hin_RX4 hown hE.1 hP (29 + 18 * vN tp) (wd_at (M := M) (show 29 + 18 * vN tp < n by omega) ((tp_t cy ad (show vN tp < 6 by omega)).1 _)) rfl 4 (by decide) hf164 (fun _ h9 => h9) rfl dX5_recount_10 ?_
  refine wr_top (y := (nI sc)) hsc ?_
  refine lv_icmp_ge (tgt := 35) hx hb dX5_recount_13 (by decide) (fun c_13 => ?_) (fun c_13 => ?_)
  · have c_13 := (nI_leI (by omega) (by omega)).mp c_13
    refine lv_aload_n hx hb dX5_recount_35 rfl (lv_at hl 3 rfl) ?_
    refine va_getN (D := D) (ci := 3) (v := .int (M (29 + 18 * vN tp) 4)) (C := RX4) (T := TX4) (N := 5) hx hb hts hin_RX4 hown hE.1 hP (29 + 18 * vN tp) (wd_at (M := M) (show 29 + 18 * vN tp < n by omega) ((tp_t cy ad (show vN tp < 6 by omega)).1 _)) rfl 4 (by decide) hf164 (fun _ h9 => h9) rfl dX5_recount_36 ?_
    refine wr_top (y := (nI sc)) hsc ?_
    refine vx_ret ?_
    refine W.widen (k := 9) (n := 38) (by omega) (by omega) ?_
    exact W.iret (v := (nI sc)) hx hb hr (fun t ht hW => ⟨⟨(nI sc), M, rfl, ⟨htp0, htp1, Or.inl ⟨fun j hj => hI.2.2.2 j (by omega), rfl⟩, rfl⟩, (by show va_P D vwCl _ t.heap; rw [ht]; exact hP)⟩, hS.F ht⟩) hS.2.2 dX5_recount_39
  · have c_13 := mt (nI_leI (by omega) (by omega)).mpr c_13
    refine lv_aload_n hx hb dX5_recount_16 rfl (lv_at hl 1 rfl) ?_
    refine lv_aload_n hx hb dX5_recount_17 rfl (lv_at hl 3 rfl) ?_
    refine lv_iload_n hx hb dX5_recount_18 rfl (lv_at hl 0 rfl) ?_
    have hcl : cc9 + 1 ≤ 9 := by omega
    have hcs : ss9 + 4 ≤ 38 := by omega
    refine va_calli (va_runV (As := [.ref (ad (29 + 18 * vN tp)), .int (nI i)]) (rest := []) ⟨hx, hb, hml, hown, hts⟩ (kX5_isStoredWell l hD hn (show vN tp < 6 by omega) hrc8 hrg (hbs _ ht6) hsc hsc8 (show i < sc by omega) hst) (cwV 2 hts gX5_recount_X5_isStoredWell rfl rfl rfl (by decide +kernel) ⟨Nat.le_of_ble_eq_true rfl, Nat.le_of_ble_eq_true rfl⟩) (rw_pv (ci := 4) (q := (RX5, TX5, 11)) hE hP hS hA rfl (wd_at (M := M) (show 0 < n by omega) ((g_0 cy ad) _))) rfl rfl hl.1 rfl (lv_room (Nat.le_of_ble_eq_true rfl)) dX5_recount_19 ⟨hcl, hcs⟩) hS (fun q _ h => h) (fun q h => h) (fun r_19 u_19 t H1 locs ht hvm hr_19 hB_19 hz1 hk1 hS => ?_)
    have hP : va_P D vwCl (wd cy ad n u_19 ++ []) H1 := by rw [← ht]; exact hB_19
    clear hB_19 ht hvm hz1 hk1
    generalize H1 = H at hP hS ⊢
    obtain ⟨hr_19, hu_19⟩ := hr_19
    rw [hu_19] at hP
    rcases hr_19 with ⟨hq_19, rfl⟩ | ⟨hq_19, rfl⟩
    · refine lv_if_ne (tgt := 29) hx hb dX5_recount_22 (by decide) (fun c_22 => ?_) (fun c_22 => ?_)
      · have c_22 := mt (o_eq0 _).mpr c_22
        refine lv_iinc (v := (nI (i + 1))) (lv' := [(3, .int (nI (i + 1))), (0, .ref (ad 0)), (1, .int tp), (2, .ref (ad (29 + 18 * vN tp)))]) hx hb dX5_recount_29 hl (k := 0) rfl (nI_1 _) (by decide) rfl (fun ls hl => ?_)
        refine lv_goto (tgt := 8) hx hb dX5_recount_32 (by decide) ?_
        exact ih8 _ (i + 1) _ _ _ _ _ (by omega) ⟨rfl, ⟨by omega, by omega, by omega, fun j hj => by rcases Nat.lt_or_ge j i with h | h <;> first | exact hI.2.2.2 j h | (rw [show j = i by omega]; exact hq_19)⟩, hP, hS, lv_sub hl [0, 1, 2, 3] rfl⟩
      · exact absurd c_22 (by decide)
    · refine lv_if_ne (tgt := 29) hx hb dX5_recount_22 (by decide) (fun c_22 => ?_) (fun c_22 => ?_)
      · exact absurd c_22 (by decide)
      · have c_22 := (o_eq0 _).mp c_22
        refine lv_iconst (v := (-1)) hx hb dX5_recount_25 (by decide) ?_
        refine lv_iload_n hx hb dX5_recount_26 rfl (lv_at hl 0 rfl) ?_
        refine lv_isub hx hb dX5_recount_27 ?_
        refine vx_ret ?_
        refine W.widen (k := 9) (n := 38) (by omega) (by omega) ?_
        exact W.iret (v := ((-1) - (nI i))) hx hb hr (fun t ht hW => ⟨⟨((-1) - (nI i)), M, rfl, ⟨htp0, htp1, Or.inr ⟨i, by omega, hq_19, hI.2.2.2, rfl⟩, rfl⟩, (by show va_P D vwCl _ t.heap; rw [ht]; exact hP)⟩, hS.F ht⟩) hS.2.2 dX5_recount_28
