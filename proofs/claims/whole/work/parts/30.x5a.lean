theorem g_0 (cy ad : Nat → Nat) : ∀ row, gE cy ad 0 row = eRP ad row := fun _ => rfl
theorem g_3 (cy ad : Nat → Nat) : ∀ row, gE cy ad 3 row = eRef (cy 3) 8 (fun r => some (ad (13 + 2 * r))) := fun _ => rfl
theorem g_4 (cy ad : Nat → Nat) : ∀ row, gE cy ad 4 row = eRef (cy 5) 6 (fun t => some (ad (29 + 18 * t))) := fun _ => rfl
theorem g_7 (cy ad : Nat → Nat) : ∀ row, gE cy ad 7 row = eInt (cy 0) 200 row := fun _ => rfl
theorem g_12 (cy ad : Nat → Nat) : ∀ row, gE cy ad 12 row = eInt (cy 0) 8 row := fun _ => rfl

set_option maxHeartbeats 4000000 in
set_option maxRecDepth 100000 in
/-- knownRing -/
theorem kX5_knownRing (l : Launch) (hlt : l.stackTraces = false) {D : va_G} {cy ad : Nat → Nat} {n : Nat} {M : Mm} {A : Nat → Prop} (hD : ∀ M, va_D A (wd cy ad n M ++ [])) (hn : 137 ≤ n) {rc : Nat} {x : Int32} (hc0 : M 0 2 = nI rc) (hc1 : rc ≤ 8) : vx_Met l yX5_knownRing wsX5_knownRing ({ frames := 6, cells := 1, slots := 6, locals := 86 }) (va_Pc [.ref (ad 0), .int x] (TW D cy (wd cy ad n M ++ []) A)) (va_Qq (S := Unit) (fun r _ => 0 ≤ x.toInt ∧ x.toInt < (rc : Int) ∧ r = some (ad (13 + 2 * vN x))) (fun _ t => va_P D vwCl (wd cy ad n M ++ []) t.heap) A) (vx_X (S := Mm) (fun _ => True) (fun E u t => (E = "java/lang/IllegalArgumentException" ∧ (x.toInt < 0 ∨ (rc : Int) ≤ x.toInt) ∧ u = M) ∧ va_P D vwCl (wd cy ad n u ++ []) t.heap) A) 1 6 A := by
  refine vx_ofW (cc := cX5_knownRing) (maxL := 2) (ret := (some (.object "RingPetition$KeyRow"))) (by decide) rfl ?_
  intro p e s m args below meth c s₁ B hml htab hv
  obtain ⟨rfl, hP, hE, hA, hX⟩ := hv
  have hx := B.exec
  have hb := B.bytes
  have hr := B.returns
  have hts := atoms_spec (ws := wsX5_knownRing) B.pre
  have hown : s.vm.findClass RX5 = some m.cls := findClass_of_methodNamed B.named
  have hlocks := B.notSynchronized
  have hf18 : (Cond.fieldLink RX5 18 "RingPetition" "rings" "[LRingPetition$KeyRow;").before #[.ref (ad 0), .int x] s = true := hts _ (by decide +kernel)
  have hf22 : (Cond.fieldLink RX5 22 "RingPetition" "ringCount" "I").before #[.ref (ad 0), .int x] s = true := hts _ (by decide +kernel)
  have hin_RX5 : ∀ w ∈ u_ws RX5 TX5 11, w ∈ wsX5_knownRing := by decide +kernel
  have hS : va_S A s.heap s.heap [] := va_S.rf
  have hl := lv_entry ([.ref (ad 0), .int x]) (n := 2) (Nat.le_of_ble_eq_true rfl)
  rw [lg_entry_eq]
  generalize (lg_sl ([.ref (ad 0), .int x]) ++ List.replicate (2 - (lg_sl ([.ref (ad 0), .int x])).length) Slot.unset).toArray = ls at hl ⊢
  have hl : lv_has ls 2 [(0, .ref (ad 0)), (1, .int x)] := hl
  refine lv_iload_n hx hb dX5_knownRing_0 rfl (lv_at hl 1 rfl) ?_
  refine lv_if_lt (tgt := 12) hx hb dX5_knownRing_1 (by decide) (fun c_1 => ?_) (fun c_1 => ?_)
  · have c_1 := (o_lt0 _).mp c_1
    obtain ⟨sa, hstr⟩ := hX.2.2.1 (215, "no such ring") (List.mem_of_getElem? (i := 20) rfl)
    exact vx_throwS (text := "no such ring") (names := exN) (ik := 68) (is := 215) (ic := 72) (A := A) hx hb hlt hown ex_c68 ex_n (hts (.classLink RX5 68 "java/lang/IllegalArgumentException") (by decide +kernel)) (hts (.initialized "java/lang/IllegalArgumentException") (by decide +kernel)) hstr (vx_hat (fun w h => hts w (List.mem_cons_of_mem _ (List.mem_append_right _ h))) ex_b68 (ex_u hX (List.mem_of_getElem? (i := 0) rfl))) ex_g68 hX.1 hX.2.1 hS (hl.1.trans hml.symm) dX5_knownRing_12 dX5_knownRing_15 dX5_knownRing_16 dX5_knownRing_18 dX5_knownRing_21 (fun x h => (htab x h).elim) (Nat.le_of_ble_eq_true rfl) (Nat.le_of_ble_eq_true rfl) (Nat.le_of_ble_eq_true rfl) (Nat.le_of_ble_eq_true rfl) hlocks (fun t h1 h2 h3 => ⟨M, trivial, ⟨⟨rfl, by omega, rfl⟩, va_keep hP h3⟩, vx_fin hS h2 h3⟩) hS.2.2 (Nat.le_of_ble_eq_true rfl) (Nat.le_of_ble_eq_true rfl)
  · have c_1 := mt (o_lt0 _).mpr c_1
    refine lv_iload_n hx hb dX5_knownRing_4 rfl (lv_at hl 1 rfl) ?_
    refine lv_aload_n hx hb dX5_knownRing_5 rfl (lv_at hl 0 rfl) ?_
    refine va_get (D := D) (ci := 4) (v := .int (M 0 2)) (C := RX5) (T := TX5) (N := 11) hx hb hts hin_RX5 hown hE.1 hP 0 (wd_at (M := M) (show 0 < n by omega) ((g_0 cy ad) _)) rfl 2 (by decide) hf22 (fun _ h9 => h9) rfl dX5_knownRing_6 ?_
    refine wr_top (y := (nI rc)) hc0 ?_
    refine lv_icmp_lt (tgt := 22) hx hb dX5_knownRing_9 (by decide) (fun c_9 => ?_) (fun c_9 => ?_)
    · have c_9 := (o_gt (by omega) _).mp c_9
      refine lv_aload_n hx hb dX5_knownRing_22 rfl (lv_at hl 0 rfl) ?_
      refine va_get (D := D) (ci := 4) (v := .ref (ad 3)) (C := RX5) (T := TX5) (N := 11) hx hb hts hin_RX5 hown hE.1 hP 0 (wd_at (M := M) (show 0 < n by omega) ((g_0 cy ad) _)) rfl 1 (by decide) hf18 (fun _ h9 => h9) rfl dX5_knownRing_23 ?_
      refine lv_iload_n hx hb dX5_knownRing_26 rfl (lv_at hl 1 rfl) ?_
      refine wr_aldq (cy := cy) (ad := ad) (ex := []) hx hb hE.1 hP 3 (show 3 < n by omega) 3 ((g_3 cy ad) _) rfl (vN x) (x_vN (by omega)) (by rw [vN_toInt]; omega) (by decide) dX5_knownRing_27 ?_
      refine vx_ret ?_
      refine W.widen (k := 1) (n := 6) (Nat.le_of_ble_eq_true rfl) (Nat.le_of_ble_eq_true rfl) ?_
      exact W.aret (v := .ref (ad (13 + 2 * (vN x)))) hx hb hr (Or.inl ⟨_, rfl⟩) (Or.inr ⟨_, rfl⟩) (fun t ht hW => ⟨⟨some (ad (13 + 2 * (vN x))), (), rfl, ⟨by omega, by omega, rfl⟩, (by show va_P D vwCl _ t.heap; rw [ht]; exact hP)⟩, hS.F ht⟩) hS.2.2 dX5_knownRing_28
    · have c_9 := mt (o_gt (by omega) _).mpr c_9
      obtain ⟨sa, hstr⟩ := hX.2.2.1 (215, "no such ring") (List.mem_of_getElem? (i := 20) rfl)
      exact vx_throwS (text := "no such ring") (names := exN) (ik := 68) (is := 215) (ic := 72) (A := A) hx hb hlt hown ex_c68 ex_n (hts (.classLink RX5 68 "java/lang/IllegalArgumentException") (by decide +kernel)) (hts (.initialized "java/lang/IllegalArgumentException") (by decide +kernel)) hstr (vx_hat (fun w h => hts w (List.mem_cons_of_mem _ (List.mem_append_right _ h))) ex_b68 (ex_u hX (List.mem_of_getElem? (i := 0) rfl))) ex_g68 hX.1 hX.2.1 hS (hl.1.trans hml.symm) dX5_knownRing_12 dX5_knownRing_15 dX5_knownRing_16 dX5_knownRing_18 dX5_knownRing_21 (fun x h => (htab x h).elim) (Nat.le_of_ble_eq_true rfl) (Nat.le_of_ble_eq_true rfl) (Nat.le_of_ble_eq_true rfl) (Nat.le_of_ble_eq_true rfl) hlocks (fun t h1 h2 h3 => ⟨M, trivial, ⟨⟨rfl, by omega, rfl⟩, va_keep hP h3⟩, vx_fin hS h2 h3⟩) hS.2.2 (Nat.le_of_ble_eq_true rfl) (Nat.le_of_ble_eq_true rfl)

set_option maxHeartbeats 4000000 in
set_option maxRecDepth 100000 in
/-- knownTopic -/
theorem kX5_knownTopic (l : Launch) (hlt : l.stackTraces = false) {D : va_G} {cy ad : Nat → Nat} {n : Nat} {M : Mm} {A : Nat → Prop} (hD : ∀ M, va_D A (wd cy ad n M ++ [])) (hn : 137 ≤ n) {tc : Nat} {x : Int32} (hc0 : M 0 4 = nI tc) (hc1 : tc ≤ 6) : vx_Met l yX5_knownTopic wsX5_knownTopic ({ frames := 6, cells := 1, slots := 6, locals := 86 }) (va_Pc [.ref (ad 0), .int x] (TW D cy (wd cy ad n M ++ []) A)) (va_Qq (S := Unit) (fun r _ => 0 ≤ x.toInt ∧ x.toInt < (tc : Int) ∧ r = some (ad (29 + 18 * vN x))) (fun _ t => va_P D vwCl (wd cy ad n M ++ []) t.heap) A) (vx_X (S := Mm) (fun _ => True) (fun E u t => (E = "java/lang/IllegalArgumentException" ∧ (x.toInt < 0 ∨ (tc : Int) ≤ x.toInt) ∧ u = M) ∧ va_P D vwCl (wd cy ad n u ++ []) t.heap) A) 1 6 A := by
  refine vx_ofW (cc := cX5_knownTopic) (maxL := 2) (ret := (some (.object "RingPetition$Topic"))) (by decide) rfl ?_
  intro p e s m args below meth c s₁ B hml htab hv
  obtain ⟨rfl, hP, hE, hA, hX⟩ := hv
  have hx := B.exec
  have hb := B.bytes
  have hr := B.returns
  have hts := atoms_spec (ws := wsX5_knownTopic) B.pre
  have hown : s.vm.findClass RX5 = some m.cls := findClass_of_methodNamed B.named
  have hlocks := B.notSynchronized
  have hf28 : (Cond.fieldLink RX5 28 "RingPetition" "topics" "[LRingPetition$Topic;").before #[.ref (ad 0), .int x] s = true := hts _ (by decide +kernel)
  have hf32 : (Cond.fieldLink RX5 32 "RingPetition" "topicCount" "I").before #[.ref (ad 0), .int x] s = true := hts _ (by decide +kernel)
  have hin_RX5 : ∀ w ∈ u_ws RX5 TX5 11, w ∈ wsX5_knownTopic := by decide +kernel
  have hS : va_S A s.heap s.heap [] := va_S.rf
  have hl := lv_entry ([.ref (ad 0), .int x]) (n := 2) (Nat.le_of_ble_eq_true rfl)
  rw [lg_entry_eq]
  generalize (lg_sl ([.ref (ad 0), .int x]) ++ List.replicate (2 - (lg_sl ([.ref (ad 0), .int x])).length) Slot.unset).toArray = ls at hl ⊢
  have hl : lv_has ls 2 [(0, .ref (ad 0)), (1, .int x)] := hl
  refine lv_iload_n hx hb dX5_knownTopic_0 rfl (lv_at hl 1 rfl) ?_
  refine lv_if_lt (tgt := 12) hx hb dX5_knownTopic_1 (by decide) (fun c_1 => ?_) (fun c_1 => ?_)
  · have c_1 := (o_lt0 _).mp c_1
    obtain ⟨sa, hstr⟩ := hX.2.2.1 (217, "no such topic") (List.mem_of_getElem? (i := 21) rfl)
    exact vx_throwS (text := "no such topic") (names := exN) (ik := 68) (is := 217) (ic := 72) (A := A) hx hb hlt hown ex_c68 ex_n (hts (.classLink RX5 68 "java/lang/IllegalArgumentException") (by decide +kernel)) (hts (.initialized "java/lang/IllegalArgumentException") (by decide +kernel)) hstr (vx_hat (fun w h => hts w (List.mem_cons_of_mem _ (List.mem_append_right _ h))) ex_b68 (ex_u hX (List.mem_of_getElem? (i := 0) rfl))) ex_g68 hX.1 hX.2.1 hS (hl.1.trans hml.symm) dX5_knownTopic_12 dX5_knownTopic_15 dX5_knownTopic_16 dX5_knownTopic_18 dX5_knownTopic_21 (fun x h => (htab x h).elim) (Nat.le_of_ble_eq_true rfl) (Nat.le_of_ble_eq_true rfl) (Nat.le_of_ble_eq_true rfl) (Nat.le_of_ble_eq_true rfl) hlocks (fun t h1 h2 h3 => ⟨M, trivial, ⟨⟨rfl, by omega, rfl⟩, va_keep hP h3⟩, vx_fin hS h2 h3⟩) hS.2.2 (Nat.le_of_ble_eq_true rfl) (Nat.le_of_ble_eq_true rfl)
  · have c_1 := mt (o_lt0 _).mpr c_1
    refine lv_iload_n hx hb dX5_knownTopic_4 rfl (lv_at hl 1 rfl) ?_
    refine lv_aload_n hx hb dX5_knownTopic_5 rfl (lv_at hl 0 rfl) ?_
    refine va_get (D := D) (ci := 4) (v := .int (M 0 4)) (C := RX5) (T := TX5) (N := 11) hx hb hts hin_RX5 hown hE.1 hP 0 (wd_at (M := M) (show 0 < n by omega) ((g_0 cy ad) _)) rfl 4 (by decide) hf32 (fun _ h9 => h9) rfl dX5_knownTopic_6 ?_
    refine wr_top (y := (nI tc)) hc0 ?_
    refine lv_icmp_lt (tgt := 22) hx hb dX5_knownTopic_9 (by decide) (fun c_9 => ?_) (fun c_9 => ?_)
    · have c_9 := (o_gt (by omega) _).mp c_9
      refine lv_aload_n hx hb dX5_knownTopic_22 rfl (lv_at hl 0 rfl) ?_
      refine va_get (D := D) (ci := 4) (v := .ref (ad 4)) (C := RX5) (T := TX5) (N := 11) hx hb hts hin_RX5 hown hE.1 hP 0 (wd_at (M := M) (show 0 < n by omega) ((g_0 cy ad) _)) rfl 3 (by decide) hf28 (fun _ h9 => h9) rfl dX5_knownTopic_23 ?_
      refine lv_iload_n hx hb dX5_knownTopic_26 rfl (lv_at hl 1 rfl) ?_
      refine wr_aldq (cy := cy) (ad := ad) (ex := []) hx hb hE.1 hP 4 (show 4 < n by omega) 5 ((g_4 cy ad) _) rfl (vN x) (x_vN (by omega)) (by rw [vN_toInt]; omega) (by decide) dX5_knownTopic_27 ?_
      refine vx_ret ?_
      refine W.widen (k := 1) (n := 6) (Nat.le_of_ble_eq_true rfl) (Nat.le_of_ble_eq_true rfl) ?_
      exact W.aret (v := .ref (ad (29 + 18 * (vN x)))) hx hb hr (Or.inl ⟨_, rfl⟩) (Or.inr ⟨_, rfl⟩) (fun t ht hW => ⟨⟨some (ad (29 + 18 * (vN x))), (), rfl, ⟨by omega, by omega, rfl⟩, (by show va_P D vwCl _ t.heap; rw [ht]; exact hP)⟩, hS.F ht⟩) hS.2.2 dX5_knownTopic_28
    · have c_9 := mt (o_gt (by omega) _).mpr c_9
      obtain ⟨sa, hstr⟩ := hX.2.2.1 (217, "no such topic") (List.mem_of_getElem? (i := 21) rfl)
      exact vx_throwS (text := "no such topic") (names := exN) (ik := 68) (is := 217) (ic := 72) (A := A) hx hb hlt hown ex_c68 ex_n (hts (.classLink RX5 68 "java/lang/IllegalArgumentException") (by decide +kernel)) (hts (.initialized "java/lang/IllegalArgumentException") (by decide +kernel)) hstr (vx_hat (fun w h => hts w (List.mem_cons_of_mem _ (List.mem_append_right _ h))) ex_b68 (ex_u hX (List.mem_of_getElem? (i := 0) rfl))) ex_g68 hX.1 hX.2.1 hS (hl.1.trans hml.symm) dX5_knownTopic_12 dX5_knownTopic_15 dX5_knownTopic_16 dX5_knownTopic_18 dX5_knownTopic_21 (fun x h => (htab x h).elim) (Nat.le_of_ble_eq_true rfl) (Nat.le_of_ble_eq_true rfl) (Nat.le_of_ble_eq_true rfl) (Nat.le_of_ble_eq_true rfl) hlocks (fun t h1 h2 h3 => ⟨M, trivial, ⟨⟨rfl, by omega, rfl⟩, va_keep hP h3⟩, vx_fin hS h2 h3⟩) hS.2.2 (Nat.le_of_ble_eq_true rfl) (Nat.le_of_ble_eq_true rfl)

set_option maxHeartbeats 4000000 in
set_option maxRecDepth 100000 in
/-- member -/
theorem kX5_member (l : Launch) (hlt : l.stackTraces = false) {D : va_G} {cy ad : Nat → Nat} {n : Nat} {M : Mm} {A : Nat → Prop} (hD : ∀ M, va_D A (wd cy ad n M ++ [])) (hn : 137 ≤ n) {mc : Nat} {x : Int32} (hmc : M 1 1 = nI mc) (hmc12 : mc ≤ 12) : vx_Met l yX5_member wsX5_member ({ frames := 6, cells := 1, slots := 6, locals := 86 }) (va_Pc [.ref (ad 0), .int x] (TW D cy (wd cy ad n M ++ []) A)) (va_Qi (S := Mm) (fun r u => r = nI mc ∧ mc < 12 ∧ eltN (vN x) = true ∧ (∀ j, j < mc → M 2 j ≠ x) ∧ u = st (st M 2 mc x) 1 1 (nI (mc + 1))) (fun u t => va_P D vwCl (wd cy ad n u ++ []) t.heap) A) (vx_X (S := Mm) (fun _ => True) (fun E u t => (((E = "java/lang/IllegalArgumentException" ∧ ¬ (eltN (vN x) = true ∧ ∀ j, j < mc → M 2 j ≠ x)) ∨ (E = "java/lang/IllegalStateException" ∧ eltN (vN x) = true ∧ (∀ j, j < mc → M 2 j ≠ x) ∧ mc = 12)) ∧ u = M) ∧ va_P D vwCl (wd cy ad n u ++ []) t.heap) A) 1 6 A := by
  refine vx_ofW (cc := cX5_member) (maxL := 2) (ret := (some .int)) (by decide) rfl ?_
  intro p e s m args below meth c s₁ B hml htab hv
  obtain ⟨rfl, hP, hE, hA, hX⟩ := hv
  have hx := B.exec
  have hb := B.bytes
  have hr := B.returns
  have hts := atoms_spec (ws := wsX5_member) B.pre
  have hown : s.vm.findClass RX5 = some m.cls := findClass_of_methodNamed B.named
  have hlocks := B.notSynchronized
  have hf14 : (Cond.fieldLink RX5 14 "RingPetition" "everybody" "LRingPetition$KeyRow;").before #[.ref (ad 0), .int x] s = true := hts _ (by decide +kernel)
  have hf75 : (Cond.fieldLinkNest RX5 75 "RingPetition$KeyRow" "size" "I" "RingPetition").before #[.ref (ad 0), .int x] s = true := va_Nw.use rfl (hE.2 _ (List.mem_of_getElem? (i := 3) rfl))
  have hin_RX1 : ∀ w ∈ u_ws RX1 TX1 2, w ∈ wsX5_member := by decide +kernel
  have hin_RX5 : ∀ w ∈ u_ws RX5 TX5 11, w ∈ wsX5_member := by decide +kernel
  have hS : va_S A s.heap s.heap [] := va_S.rf
  have hl := lv_entry ([.ref (ad 0), .int x]) (n := 2) (Nat.le_of_ble_eq_true rfl)
  rw [lg_entry_eq]
  generalize (lg_sl ([.ref (ad 0), .int x]) ++ List.replicate (2 - (lg_sl ([.ref (ad 0), .int x])).length) Slot.unset).toArray = ls at hl ⊢
  have hl : lv_has ls 2 [(0, .ref (ad 0)), (1, .int x)] := hl
  refine lv_iload_n hx hb dX5_member_0 rfl (lv_at hl 1 rfl) ?_
  refine vp_callSi (W.runS (As := [.int x]) (rest := []) ⟨hx, hb, hml, hown, hts⟩ (kX2_isElementButOne l) (va_cwS 1 hts gX5_member_X2_isElementButOne rfl rfl rfl (by decide +kernel) ⟨Nat.le_of_ble_eq_true rfl, Nat.le_of_ble_eq_true rfl⟩) pu_ps rfl rfl hl.1 rfl (lv_room (Nat.le_of_ble_eq_true rfl)) dX5_member_1 ⟨Nat.le_of_ble_eq_true rfl, Nat.le_of_ble_eq_true rfl⟩) (fun r_1 hr_1 => ?_)
  rcases hr_1 with ⟨hq_1, rfl⟩ | ⟨hq_1, rfl⟩
  · refine lv_if_eq (tgt := 18) hx hb dX5_member_4 (by decide) (fun c_4 => ?_) (fun c_4 => ?_)
    · exact absurd c_4 (by decide)
    · have c_4 := mt (o_eq0 _).mpr c_4
      refine lv_aload_n hx hb dX5_member_7 rfl (lv_at hl 0 rfl) ?_
      refine va_get (D := D) (ci := 4) (v := .ref (ad 1)) (C := RX5) (T := TX5) (N := 11) hx hb hts hin_RX5 hown hE.1 hP 0 (wd_at (M := M) (show 0 < n by omega) ((g_0 cy ad) _)) rfl 0 (by decide) hf14 (fun _ h9 => h9) rfl dX5_member_8 ?_
      refine lv_iload_n hx hb dX5_member_11 rfl (lv_at hl 1 rfl) ?_
      refine vp_callSi (W.runV (As := [.int x]) (rest := []) ⟨hx, hb, hml, hown, hts⟩ (kX1_has l (kr_1 cy ad) (by omega) (by omega) hmc (by decide) hmc12) (cwV 1 hts gX5_member_X1_has rfl rfl rfl (by decide +kernel) ⟨Nat.le_of_ble_eq_true rfl, Nat.le_of_ble_eq_true rfl⟩) (ro_pv (ci := 1) (q := (RX1, TX1, 2)) hE hP rfl (wd_at (M := M) (show 1 < n by omega) ((kr_1 cy ad).1 _))) rfl rfl hl.1 rfl (lv_room (Nat.le_of_ble_eq_true rfl)) dX5_member_12 ⟨Nat.le_of_ble_eq_true rfl, Nat.le_of_ble_eq_true rfl⟩) (fun r_12 hr_12 => ?_)
      rcases hr_12 with ⟨hq_12, rfl⟩ | ⟨hq_12, rfl⟩
      · refine lv_if_eq (tgt := 28) hx hb dX5_member_15 (by decide) (fun c_15 => ?_) (fun c_15 => ?_)
        · exact absurd c_15 (by decide)
        · have c_15 := mt (o_eq0 _).mpr c_15
          obtain ⟨sa, hstr⟩ := hX.2.2.1 (70, "no key of a new member") (List.mem_of_getElem? (i := 0) rfl)
          exact vx_throwS (text := "no key of a new member") (names := exN) (ik := 68) (is := 70) (ic := 72) (A := A) hx hb hlt hown ex_c68 ex_n (hts (.classLink RX5 68 "java/lang/IllegalArgumentException") (by decide +kernel)) (hts (.initialized "java/lang/IllegalArgumentException") (by decide +kernel)) hstr (vx_hat (fun w h => hts w (List.mem_cons_of_mem _ (List.mem_append_left _ (List.mem_append_right _ h)))) ex_b68 (ex_u hX (List.mem_of_getElem? (i := 0) rfl))) ex_g68 hX.1 hX.2.1 hS (hl.1.trans hml.symm) dX5_member_18 dX5_member_21 dX5_member_22 dX5_member_24 dX5_member_27 (fun x h => (htab x h).elim) (Nat.le_of_ble_eq_true rfl) (Nat.le_of_ble_eq_true rfl) (Nat.le_of_ble_eq_true rfl) (Nat.le_of_ble_eq_true rfl) hlocks (fun t h1 h2 h3 => ⟨M, trivial, ⟨⟨Or.inl ⟨rfl, fun h => by obtain ⟨j, hj, e9⟩ := hq_12; exact h.2 j hj e9⟩, rfl⟩, va_keep hP h3⟩, vx_fin hS h2 h3⟩) hS.2.2 (Nat.le_of_ble_eq_true rfl) (Nat.le_of_ble_eq_true rfl)
      · refine lv_if_eq (tgt := 28) hx hb dX5_member_15 (by decide) (fun c_15 => ?_) (fun c_15 => ?_)
        · have c_15 := (o_eq0 _).mp c_15
          refine lv_aload_n hx hb dX5_member_28 rfl (lv_at hl 0 rfl) ?_
          refine va_get (D := D) (ci := 4) (v := .ref (ad 1)) (C := RX5) (T := TX5) (N := 11) hx hb hts hin_RX5 hown hE.1 hP 0 (wd_at (M := M) (show 0 < n by omega) ((g_0 cy ad) _)) rfl 0 (by decide) hf14 (fun _ h9 => h9) rfl dX5_member_29 ?_
          refine va_getN (D := D) (ci := 1) (v := .int (M 1 1)) (C := RX1) (T := TX1) (N := 2) hx hb hts hin_RX1 hown hE.1 hP 1 (wd_at (M := M) (show 1 < n by omega) ((kr_1 cy ad).1 _)) rfl 1 (by decide) hf75 (fun _ h9 => h9) rfl dX5_member_32 ?_
          refine wr_top (y := (nI mc)) hmc ?_
          refine lv_bipush (v := (nI 12)) hx hb dX5_member_35 (by decide) ?_
          refine lv_icmp_lt (tgt := 50) hx hb dX5_member_37 (by decide) (fun c_37 => ?_) (fun c_37 => ?_)
          · have c_37 := (nI_ltI (by omega) (by omega)).mp c_37
            refine lv_aload_n hx hb dX5_member_50 rfl (lv_at hl 0 rfl) ?_
            refine va_get (D := D) (ci := 4) (v := .ref (ad 1)) (C := RX5) (T := TX5) (N := 11) hx hb hts hin_RX5 hown hE.1 hP 0 (wd_at (M := M) (show 0 < n by omega) ((g_0 cy ad) _)) rfl 0 (by decide) hf14 (fun _ h9 => h9) rfl dX5_member_51 ?_
            refine lv_iload_n hx hb dX5_member_54 rfl (lv_at hl 1 rfl) ?_
            refine va_callv (va_runV (As := [.int x]) (rest := []) ⟨hx, hb, hml, hown, hts⟩ (kX1_add l hD (kr_1 cy ad) (by omega) (by omega) hmc (by decide) (by omega)) (cwV 1 hts gX5_member_X1_add rfl rfl rfl (by decide +kernel) ⟨Nat.le_of_ble_eq_true rfl, Nat.le_of_ble_eq_true rfl⟩) (rw_pv (ci := 1) (q := (RX1, TX1, 2)) hE hP hS hA rfl (wd_at (M := M) (show 1 < n by omega) ((kr_1 cy ad).1 _))) rfl rfl hl.1 rfl (lv_room (Nat.le_of_ble_eq_true rfl)) dX5_member_55 ⟨Nat.le_of_ble_eq_true rfl, Nat.le_of_ble_eq_true rfl⟩) hS (fun q _ h => h) (fun q h => h) (fun u_55 t H1 locs ht hvm hr_55 hB_55 hz1 hk1 hS => ?_)
            have hP : va_P D vwCl (wd cy ad n u_55 ++ []) H1 := by rw [← ht]; exact hB_55
            clear hB_55 ht hvm hz1 hk1
            generalize H1 = H at hP hS ⊢
            subst hr_55
            refine lv_aload_n hx hb dX5_member_58 rfl (lv_at hl 0 rfl) ?_
            refine va_get (D := D) (ci := 4) (v := .ref (ad 1)) (C := RX5) (T := TX5) (N := 11) hx hb hts hin_RX5 hown hE.1 hP 0 (wd_at (M := (st (st M (1 + 1) mc x) 1 1 (nI (mc + 1)))) (show 0 < n by omega) ((g_0 cy ad) _)) rfl 0 (by decide) hf14 (fun _ h9 => h9) rfl dX5_member_59 ?_
            refine va_getN (D := D) (ci := 1) (v := .int ((st (st M (1 + 1) mc x) 1 1 (nI (mc + 1))) 1 1)) (C := RX1) (T := TX1) (N := 2) hx hb hts hin_RX1 hown hE.1 hP 1 (wd_at (M := (st (st M (1 + 1) mc x) 1 1 (nI (mc + 1)))) (show 1 < n by omega) ((kr_1 cy ad).1 _)) rfl 1 (by decide) hf75 (fun _ h9 => h9) rfl dX5_member_62 ?_
            refine wr_top (y := (nI (mc + 1))) (st_s _ _ _ _) ?_
            refine lv_iconst (v := (nI 1)) hx hb dX5_member_65 (by decide) ?_
            refine lv_isub hx hb dX5_member_66 ?_
            refine wr_top (y := (nI mc)) (nI_pred mc) ?_
            refine vx_ret ?_
            refine W.widen (k := 1) (n := 6) (Nat.le_of_ble_eq_true rfl) (Nat.le_of_ble_eq_true rfl) ?_
            exact W.iret (v := (nI mc)) hx hb hr (fun t ht hW => ⟨⟨(nI mc), (st (st M (1 + 1) mc x) 1 1 (nI (mc + 1))), rfl, ⟨rfl, by omega, hq_1, (fun j hj e9 => hq_12 ⟨j, hj, e9⟩), rfl⟩, (by show va_P D vwCl _ t.heap; rw [ht]; exact hP)⟩, hS.F ht⟩) hS.2.2 dX5_member_67
          · have c_37 := mt (nI_ltI (by omega) (by omega)).mpr c_37
            obtain ⟨sa, hstr⟩ := hX.2.2.1 (80, "there are 12 members") (List.mem_of_getElem? (i := 1) rfl)
            exact vx_throwS (text := "there are 12 members") (names := exN) (ik := 78) (is := 80) (ic := 82) (A := A) hx hb hlt hown ex_c78 ex_n (hts (.classLink RX5 78 "java/lang/IllegalStateException") (by decide +kernel)) (hts (.initialized "java/lang/IllegalStateException") (by decide +kernel)) hstr (vx_hat (fun w h => hts w (List.mem_cons_of_mem _ (List.mem_append_right _ h))) ex_b78 (ex_u hX (List.mem_of_getElem? (i := 1) rfl))) ex_g78 hX.1 hX.2.1 hS (hl.1.trans hml.symm) dX5_member_40 dX5_member_43 dX5_member_44 dX5_member_46 dX5_member_49 (fun x h => (htab x h).elim) (Nat.le_of_ble_eq_true rfl) (Nat.le_of_ble_eq_true rfl) (Nat.le_of_ble_eq_true rfl) (Nat.le_of_ble_eq_true rfl) hlocks (fun t h1 h2 h3 => ⟨M, trivial, ⟨⟨Or.inr ⟨rfl, hq_1, (fun j hj e9 => hq_12 ⟨j, hj, e9⟩), by omega⟩, rfl⟩, va_keep hP h3⟩, vx_fin hS h2 h3⟩) hS.2.2 (Nat.le_of_ble_eq_true rfl) (Nat.le_of_ble_eq_true rfl)
        · exact absurd c_15 (by decide)
  · refine lv_if_eq (tgt := 18) hx hb dX5_member_4 (by decide) (fun c_4 => ?_) (fun c_4 => ?_)
    · have c_4 := (o_eq0 _).mp c_4
      obtain ⟨sa, hstr⟩ := hX.2.2.1 (70, "no key of a new member") (List.mem_of_getElem? (i := 0) rfl)
      exact vx_throwS (text := "no key of a new member") (names := exN) (ik := 68) (is := 70) (ic := 72) (A := A) hx hb hlt hown ex_c68 ex_n (hts (.classLink RX5 68 "java/lang/IllegalArgumentException") (by decide +kernel)) (hts (.initialized "java/lang/IllegalArgumentException") (by decide +kernel)) hstr (vx_hat (fun w h => hts w (List.mem_cons_of_mem _ (List.mem_append_left _ (List.mem_append_right _ h)))) ex_b68 (ex_u hX (List.mem_of_getElem? (i := 0) rfl))) ex_g68 hX.1 hX.2.1 hS (hl.1.trans hml.symm) dX5_member_18 dX5_member_21 dX5_member_22 dX5_member_24 dX5_member_27 (fun x h => (htab x h).elim) (Nat.le_of_ble_eq_true rfl) (Nat.le_of_ble_eq_true rfl) (Nat.le_of_ble_eq_true rfl) (Nat.le_of_ble_eq_true rfl) hlocks (fun t h1 h2 h3 => ⟨M, trivial, ⟨⟨Or.inl ⟨rfl, fun h => hq_1 h.1⟩, rfl⟩, va_keep hP h3⟩, vx_fin hS h2 h3⟩) hS.2.2 (Nat.le_of_ble_eq_true rfl) (Nat.le_of_ble_eq_true rfl)
    · exact absurd c_4 (by decide)

set_option maxHeartbeats 4000000 in
set_option maxRecDepth 100000 in
/-- key -/
theorem kX5_key (l : Launch) (hlt : l.stackTraces = false) {D : va_G} {cy ad : Nat → Nat} {n : Nat} {M : Mm} {A : Nat → Prop} (hD : ∀ M, va_D A (wd cy ad n M ++ [])) (hn : 137 ≤ n) {x : Int32} : vx_Met l yX5_key wsX5_key ({ frames := 6, cells := 1, slots := 6, locals := 86 }) (va_Pc [.ref (ad 0), .int x] (TW D cy (wd cy ad n M ++ []) A)) (va_Qi (S := Mm) (fun r u => r = nI (4 ^ vN x % 2027) ∧ 0 < x.toInt ∧ x.toInt < 1013 ∧ u = M) (fun u t => va_P D vwCl (wd cy ad n u ++ []) t.heap) A) (vx_X (S := Mm) (fun _ => True) (fun E u t => (E = "java/lang/IllegalArgumentException" ∧ ¬ (0 < x.toInt ∧ x.toInt < 1013) ∧ u = M) ∧ va_P D vwCl (wd cy ad n u ++ []) t.heap) A) 1 6 A := by
  refine vx_ofW (cc := cX5_key) (maxL := 2) (ret := (some .int)) (by decide) rfl ?_
  intro p e s m args below meth c s₁ B hml htab hv
  obtain ⟨rfl, hP, hE, hA, hX⟩ := hv
  have hx := B.exec
  have hb := B.bytes
  have hr := B.returns
  have hts := atoms_spec (ws := wsX5_key) B.pre
  have hown : s.vm.findClass RX5 = some m.cls := findClass_of_methodNamed B.named
  have hlocks := B.notSynchronized
  have hS : va_S A s.heap s.heap [] := va_S.rf
  have hl := lv_entry ([.ref (ad 0), .int x]) (n := 2) (Nat.le_of_ble_eq_true rfl)
  rw [lg_entry_eq]
  generalize (lg_sl ([.ref (ad 0), .int x]) ++ List.replicate (2 - (lg_sl ([.ref (ad 0), .int x])).length) Slot.unset).toArray = ls at hl ⊢
  have hl : lv_has ls 2 [(0, .ref (ad 0)), (1, .int x)] := hl
  refine lv_iload_n hx hb dX5_key_0 rfl (lv_at hl 1 rfl) ?_
  refine vp_callSi (W.runS (As := [.int x]) (rest := []) ⟨hx, hb, hml, hown, hts⟩ (kX2_isSecret l) (va_cwS 1 hts gX5_key_X2_isSecret rfl rfl rfl (by decide +kernel) ⟨Nat.le_of_ble_eq_true rfl, Nat.le_of_ble_eq_true rfl⟩) pu_ps rfl rfl hl.1 rfl (lv_room (Nat.le_of_ble_eq_true rfl)) dX5_key_1 ⟨Nat.le_of_ble_eq_true rfl, Nat.le_of_ble_eq_true rfl⟩) (fun r_1 hr_1 => ?_)
  rcases hr_1 with ⟨hq_1, rfl⟩ | ⟨hq_1, rfl⟩
  · refine lv_if_ne (tgt := 17) hx hb dX5_key_4 (by decide) (fun c_4 => ?_) (fun c_4 => ?_)
    · have c_4 := mt (o_eq0 _).mpr c_4
      refine lv_iconst (v := (nI 4)) hx hb dX5_key_17 (by decide) ?_
      refine lv_iload_n hx hb dX5_key_18 rfl (lv_at hl 1 rfl) ?_
      refine wr_top (y := (nI (vN x))) (x_vN (by omega)) ?_
      refine vp_callSi (W.runS (As := [.int (nI 4), .int (nI (vN x))]) (rest := []) ⟨hx, hb, hml, hown, hts⟩ (kX2_power l (b := 4) (e0 := vN x) (by decide) (by rw [vN_toInt]; omega)) (va_cwS 2 hts gX5_key_X2_power rfl rfl rfl (by decide +kernel) ⟨Nat.le_of_ble_eq_true rfl, Nat.le_of_ble_eq_true rfl⟩) pu_ps rfl rfl hl.1 rfl (lv_room (Nat.le_of_ble_eq_true rfl)) dX5_key_19 ⟨Nat.le_of_ble_eq_true rfl, Nat.le_of_ble_eq_true rfl⟩) (fun r_19 hr_19 => ?_)
      subst hr_19
      refine vx_ret ?_
      refine W.widen (k := 1) (n := 6) (Nat.le_of_ble_eq_true rfl) (Nat.le_of_ble_eq_true rfl) ?_
      exact W.iret (v := (nI (4 ^ vN x % 2027))) hx hb hr (fun t ht hW => ⟨⟨(nI (4 ^ vN x % 2027)), M, rfl, ⟨rfl, hq_1.1, hq_1.2, rfl⟩, (by show va_P D vwCl _ t.heap; rw [ht]; exact hP)⟩, hS.F ht⟩) hS.2.2 dX5_key_22
    · exact absurd c_4 (by decide)
  · refine lv_if_ne (tgt := 17) hx hb dX5_key_4 (by decide) (fun c_4 => ?_) (fun c_4 => ?_)
    · exact absurd c_4 (by decide)
    · have c_4 := (o_eq0 _).mp c_4
      obtain ⟨sa, hstr⟩ := hX.2.2.1 (89, "no secret") (List.mem_of_getElem? (i := 2) rfl)
      exact vx_throwS (text := "no secret") (names := exN) (ik := 68) (is := 89) (ic := 72) (A := A) hx hb hlt hown ex_c68 ex_n (hts (.classLink RX5 68 "java/lang/IllegalArgumentException") (by decide +kernel)) (hts (.initialized "java/lang/IllegalArgumentException") (by decide +kernel)) hstr (vx_hat (fun w h => hts w (List.mem_cons_of_mem _ (List.mem_append_right _ h))) ex_b68 (ex_u hX (List.mem_of_getElem? (i := 0) rfl))) ex_g68 hX.1 hX.2.1 hS (hl.1.trans hml.symm) dX5_key_7 dX5_key_10 dX5_key_11 dX5_key_13 dX5_key_16 (fun x h => (htab x h).elim) (Nat.le_of_ble_eq_true rfl) (Nat.le_of_ble_eq_true rfl) (Nat.le_of_ble_eq_true rfl) (Nat.le_of_ble_eq_true rfl) hlocks (fun t h1 h2 h3 => ⟨M, trivial, ⟨⟨rfl, hq_1, rfl⟩, va_keep hP h3⟩, vx_fin hS h2 h3⟩) hS.2.2 (Nat.le_of_ble_eq_true rfl) (Nat.le_of_ble_eq_true rfl)

set_option maxHeartbeats 4000000 in
set_option maxRecDepth 100000 in
/-- draft -/
theorem kX5_draft (l : Launch) (hlt : l.stackTraces = false) {D : va_G} {cy ad : Nat → Nat} {n : Nat} {M : Mm} {A : Nat → Prop} (hD : ∀ M, va_D A (wd cy ad n M ++ [])) (hn : 137 ≤ n) {d : Nat} {x : Int32} (hd : M 5 1 = nI d) (hd8 : d ≤ 8) : vx_Met l yX5_draft wsX5_draft ({ frames := 6, cells := 1, slots := 6, locals := 86 }) (va_Pc [.ref (ad 0), .int x] (TW D cy (wd cy ad n M ++ []) A)) (va_Qi (S := Mm) (fun r u => 0 ≤ x.toInt ∧ x.toInt < (d : Int) ∧ r = M 6 (vN x) ∧ u = M) (fun u t => va_P D vwCl (wd cy ad n u ++ []) t.heap) A) (vx_X (S := Mm) (fun _ => True) (fun E u t => (E = "java/lang/IndexOutOfBoundsException" ∧ ¬ (0 ≤ x.toInt ∧ x.toInt < (d : Int)) ∧ u = M) ∧ va_P D vwCl (wd cy ad n u ++ []) t.heap) A) 1 6 A := by
  refine vx_ofW (cc := cX5_draft) (maxL := 2) (ret := (some .int)) (by decide) rfl ?_
  intro p e s m args below meth c s₁ B hml htab hv
  obtain ⟨rfl, hP, hE, hA, hX⟩ := hv
  have hx := B.exec
  have hb := B.bytes
  have hr := B.returns
  have hts := atoms_spec (ws := wsX5_draft) B.pre
  have hown : s.vm.findClass RX5 = some m.cls := findClass_of_methodNamed B.named
  have hlocks := B.notSynchronized
  have hf141 : (Cond.fieldLinkNest RX5 141 "RingPetition$Signature" "numbers" "[I" "RingPetition").before #[.ref (ad 0), .int x] s = true := va_Nw.use rfl (hE.2 _ (List.mem_of_getElem? (i := 7) rfl))
  have hf38 : (Cond.fieldLink RX5 38 "RingPetition" "drafted" "LRingPetition$Signature;").before #[.ref (ad 0), .int x] s = true := hts _ (by decide +kernel)
  have hin_RX3 : ∀ w ∈ u_ws RX3 TX3 4, w ∈ wsX5_draft := by decide +kernel
  have hin_RX5 : ∀ w ∈ u_ws RX5 TX5 11, w ∈ wsX5_draft := by decide +kernel
  have hS : va_S A s.heap s.heap [] := va_S.rf
  have hl := lv_entry ([.ref (ad 0), .int x]) (n := 2) (Nat.le_of_ble_eq_true rfl)
  rw [lg_entry_eq]
  generalize (lg_sl ([.ref (ad 0), .int x]) ++ List.replicate (2 - (lg_sl ([.ref (ad 0), .int x])).length) Slot.unset).toArray = ls at hl ⊢
  have hl : lv_has ls 2 [(0, .ref (ad 0)), (1, .int x)] := hl
  refine lv_aload_n hx hb dX5_draft_0 rfl (lv_at hl 0 rfl) ?_
  refine va_get (D := D) (ci := 4) (v := .ref (ad 5)) (C := RX5) (T := TX5) (N := 11) hx hb hts hin_RX5 hown hE.1 hP 0 (wd_at (M := M) (show 0 < n by omega) ((g_0 cy ad) _)) rfl 5 (by decide) hf38 (fun _ h9 => h9) rfl dX5_draft_1 ?_
  refine lv_iload_n hx hb dX5_draft_4 rfl (lv_at hl 1 rfl) ?_
  refine vp_callSi (W.runV (As := [.int x]) (rest := []) ⟨hx, hb, hml, hown, hts⟩ (kX3_hasNumber l (sg_5 cy ad) (by omega) (by omega) hd hd8) (cwV 1 hts gX5_draft_X3_hasNumber rfl rfl rfl (by decide +kernel) ⟨Nat.le_of_ble_eq_true rfl, Nat.le_of_ble_eq_true rfl⟩) (ro_pv (ci := 2) (q := (RX3, TX3, 4)) hE hP rfl (wd_at (M := M) (show 5 < n by omega) ((sg_5 cy ad).1 _))) rfl rfl hl.1 rfl (lv_room (Nat.le_of_ble_eq_true rfl)) dX5_draft_5 ⟨Nat.le_of_ble_eq_true rfl, Nat.le_of_ble_eq_true rfl⟩) (fun r_5 hr_5 => ?_)
  rcases hr_5 with ⟨hq_5, rfl⟩ | ⟨hq_5, rfl⟩
  · refine lv_if_ne (tgt := 21) hx hb dX5_draft_8 (by decide) (fun c_8 => ?_) (fun c_8 => ?_)
    · have c_8 := mt (o_eq0 _).mpr c_8
      refine lv_aload_n hx hb dX5_draft_21 rfl (lv_at hl 0 rfl) ?_
      refine va_get (D := D) (ci := 4) (v := .ref (ad 5)) (C := RX5) (T := TX5) (N := 11) hx hb hts hin_RX5 hown hE.1 hP 0 (wd_at (M := M) (show 0 < n by omega) ((g_0 cy ad) _)) rfl 5 (by decide) hf38 (fun _ h9 => h9) rfl dX5_draft_22 ?_
      refine va_getN (D := D) (ci := 2) (v := .ref (ad (5 + 1))) (C := RX3) (T := TX3) (N := 4) hx hb hts hin_RX3 hown hE.1 hP 5 (wd_at (M := M) (show 5 < n by omega) ((sg_5 cy ad).1 _)) rfl 0 (by decide) hf141 (fun _ h9 => h9) rfl dX5_draft_25 ?_
      refine lv_iload_n hx hb dX5_draft_28 rfl (lv_at hl 1 rfl) ?_
      refine wr_ald (cy := cy) (ad := ad) (ex := []) hx hb hE.1 hP (5 + 1) (show 5 + 1 < n by omega) ((sg_5 cy ad).2 _) (vN x) (x_vN (by omega)) (by rw [vN_toInt]; omega) (by decide) dX5_draft_29 ?_
      refine vx_ret ?_
      refine W.widen (k := 1) (n := 6) (Nat.le_of_ble_eq_true rfl) (Nat.le_of_ble_eq_true rfl) ?_
      exact W.iret (v := (M (5 + 1) (vN x))) hx hb hr (fun t ht hW => ⟨⟨(M (5 + 1) (vN x)), M, rfl, ⟨hq_5.1, hq_5.2, rfl, rfl⟩, (by show va_P D vwCl _ t.heap; rw [ht]; exact hP)⟩, hS.F ht⟩) hS.2.2 dX5_draft_30
    · exact absurd c_8 (by decide)
  · refine lv_if_ne (tgt := 21) hx hb dX5_draft_8 (by decide) (fun c_8 => ?_) (fun c_8 => ?_)
    · exact absurd c_8 (by decide)
    · have c_8 := (o_eq0 _).mp c_8
      obtain ⟨sa, hstr⟩ := hX.2.2.1 (149, "the draft has no such number") (List.mem_of_getElem? (i := 8) rfl)
      exact vx_throwS (text := "the draft has no such number") (names := exN) (ik := 147) (is := 149) (ic := 151) (A := A) hx hb hlt hown ex_c147 ex_n (hts (.classLink RX5 147 "java/lang/IndexOutOfBoundsException") (by decide +kernel)) (hts (.initialized "java/lang/IndexOutOfBoundsException") (by decide +kernel)) hstr (vx_hat (fun w h => hts w (List.mem_cons_of_mem _ (List.mem_append_right _ h))) ex_b147 (ex_u hX (List.mem_of_getElem? (i := 2) rfl))) ex_g147 hX.1 hX.2.1 hS (hl.1.trans hml.symm) dX5_draft_11 dX5_draft_14 dX5_draft_15 dX5_draft_17 dX5_draft_20 (fun x h => (htab x h).elim) (Nat.le_of_ble_eq_true rfl) (Nat.le_of_ble_eq_true rfl) (Nat.le_of_ble_eq_true rfl) (Nat.le_of_ble_eq_true rfl) hlocks (fun t h1 h2 h3 => ⟨M, trivial, ⟨⟨rfl, hq_5, rfl⟩, va_keep hP h3⟩, vx_fin hS h2 h3⟩) hS.2.2 (Nat.le_of_ble_eq_true rfl) (Nat.le_of_ble_eq_true rfl)

set_option maxHeartbeats 4000000 in
set_option maxRecDepth 100000 in
/-- edit -/
theorem kX5_edit (l : Launch) (hlt : l.stackTraces = false) {D : va_G} {cy ad : Nat → Nat} {n : Nat} {M : Mm} {A : Nat → Prop} (hD : ∀ M, va_D A (wd cy ad n M ++ [])) (hn : 137 ≤ n) {d : Nat} {x v : Int32} (hd : M 5 1 = nI d) (hd8 : d ≤ 8) : vx_Met l yX5_edit wsX5_edit ({ frames := 6, cells := 1, slots := 6, locals := 86 }) (va_Pc [.ref (ad 0), .int x, .int v] (TW D cy (wd cy ad n M ++ []) A)) (va_Qv (S := Mm) (fun u => 0 ≤ x.toInt ∧ x.toInt < (d : Int) ∧ u = st M 6 (vN x) v) (fun u t => va_P D vwCl (wd cy ad n u ++ []) t.heap) A) (vx_X (S := Mm) (fun _ => True) (fun E u t => (E = "java/lang/IndexOutOfBoundsException" ∧ ¬ (0 ≤ x.toInt ∧ x.toInt < (d : Int)) ∧ u = M) ∧ va_P D vwCl (wd cy ad n u ++ []) t.heap) A) 1 6 A := by
  refine vx_ofW (cc := cX5_edit) (maxL := 3) (ret := none) (by decide) rfl ?_
  intro p e s m args below meth c s₁ B hml htab hv
  obtain ⟨rfl, hP, hE, hA, hX⟩ := hv
  have hx := B.exec
  have hb := B.bytes
  have hr := B.returns
  have hts := atoms_spec (ws := wsX5_edit) B.pre
  have hown : s.vm.findClass RX5 = some m.cls := findClass_of_methodNamed B.named
  have hlocks := B.notSynchronized
  have hf141 : (Cond.fieldLinkNest RX5 141 "RingPetition$Signature" "numbers" "[I" "RingPetition").before #[.ref (ad 0), .int x, .int v] s = true := va_Nw.use rfl (hE.2 _ (List.mem_of_getElem? (i := 7) rfl))
  have hf38 : (Cond.fieldLink RX5 38 "RingPetition" "drafted" "LRingPetition$Signature;").before #[.ref (ad 0), .int x, .int v] s = true := hts _ (by decide +kernel)
  have hin_RX3 : ∀ w ∈ u_ws RX3 TX3 4, w ∈ wsX5_edit := by decide +kernel
  have hin_RX5 : ∀ w ∈ u_ws RX5 TX5 11, w ∈ wsX5_edit := by decide +kernel
  have hS : va_S A s.heap s.heap [] := va_S.rf
  have hl := lv_entry ([.ref (ad 0), .int x, .int v]) (n := 3) (Nat.le_of_ble_eq_true rfl)
  rw [lg_entry_eq]
  generalize (lg_sl ([.ref (ad 0), .int x, .int v]) ++ List.replicate (3 - (lg_sl ([.ref (ad 0), .int x, .int v])).length) Slot.unset).toArray = ls at hl ⊢
  have hl : lv_has ls 3 [(0, .ref (ad 0)), (1, .int x), (2, .int v)] := hl
  refine lv_aload_n hx hb dX5_edit_0 rfl (lv_at hl 0 rfl) ?_
  refine va_get (D := D) (ci := 4) (v := .ref (ad 5)) (C := RX5) (T := TX5) (N := 11) hx hb hts hin_RX5 hown hE.1 hP 0 (wd_at (M := M) (show 0 < n by omega) ((g_0 cy ad) _)) rfl 5 (by decide) hf38 (fun _ h9 => h9) rfl dX5_edit_1 ?_
  refine lv_iload_n hx hb dX5_edit_4 rfl (lv_at hl 1 rfl) ?_
  refine vp_callSi (W.runV (As := [.int x]) (rest := []) ⟨hx, hb, hml, hown, hts⟩ (kX3_hasNumber l (sg_5 cy ad) (by omega) (by omega) hd hd8) (cwV 1 hts gX5_edit_X3_hasNumber rfl rfl rfl (by decide +kernel) ⟨Nat.le_of_ble_eq_true rfl, Nat.le_of_ble_eq_true rfl⟩) (ro_pv (ci := 2) (q := (RX3, TX3, 4)) hE hP rfl (wd_at (M := M) (show 5 < n by omega) ((sg_5 cy ad).1 _))) rfl rfl hl.1 rfl (lv_room (Nat.le_of_ble_eq_true rfl)) dX5_edit_5 ⟨Nat.le_of_ble_eq_true rfl, Nat.le_of_ble_eq_true rfl⟩) (fun r_5 hr_5 => ?_)
  rcases hr_5 with ⟨hq_5, rfl⟩ | ⟨hq_5, rfl⟩
  · refine lv_if_ne (tgt := 21) hx hb dX5_edit_8 (by decide) (fun c_8 => ?_) (fun c_8 => ?_)
    · have c_8 := mt (o_eq0 _).mpr c_8
      refine lv_aload_n hx hb dX5_edit_21 rfl (lv_at hl 0 rfl) ?_
      refine va_get (D := D) (ci := 4) (v := .ref (ad 5)) (C := RX5) (T := TX5) (N := 11) hx hb hts hin_RX5 hown hE.1 hP 0 (wd_at (M := M) (show 0 < n by omega) ((g_0 cy ad) _)) rfl 5 (by decide) hf38 (fun _ h9 => h9) rfl dX5_edit_22 ?_
      refine va_getN (D := D) (ci := 2) (v := .ref (ad (5 + 1))) (C := RX3) (T := TX3) (N := 4) hx hb hts hin_RX3 hown hE.1 hP 5 (wd_at (M := M) (show 5 < n by omega) ((sg_5 cy ad).1 _)) rfl 0 (by decide) hf141 (fun _ h9 => h9) rfl dX5_edit_25 ?_
      refine lv_iload_n hx hb dX5_edit_28 rfl (lv_at hl 1 rfl) ?_
      refine lv_iload_n hx hb dX5_edit_29 rfl (lv_at hl 2 rfl) ?_
      refine wr_ast (cy := cy) (ad := ad) (ex := []) hx hb hE.1 hP hD hS (5 + 1) (show 5 + 1 < n by omega) (sg_5 cy ad).2 (vN x) (x_vN (by omega)) (by rw [vN_toInt]; omega) (by decide) dX5_edit_30 (fun H locs hP hS => ?_)
      refine vx_ret ?_
      refine W.widen (k := 1) (n := 6) (Nat.le_of_ble_eq_true rfl) (Nat.le_of_ble_eq_true rfl) ?_
      exact W.vret hx hb hr (fun t ht hW => ⟨⟨(st M (5 + 1) (vN x) v), rfl, ⟨hq_5.1, hq_5.2, rfl⟩, (by show va_P D vwCl _ t.heap; rw [ht]; exact hP)⟩, hS.F ht⟩) hS.2.2 dX5_edit_31
    · exact absurd c_8 (by decide)
  · refine lv_if_ne (tgt := 21) hx hb dX5_edit_8 (by decide) (fun c_8 => ?_) (fun c_8 => ?_)
    · exact absurd c_8 (by decide)
    · have c_8 := (o_eq0 _).mp c_8
      obtain ⟨sa, hstr⟩ := hX.2.2.1 (149, "the draft has no such number") (List.mem_of_getElem? (i := 8) rfl)
      exact vx_throwS (text := "the draft has no such number") (names := exN) (ik := 147) (is := 149) (ic := 151) (A := A) hx hb hlt hown ex_c147 ex_n (hts (.classLink RX5 147 "java/lang/IndexOutOfBoundsException") (by decide +kernel)) (hts (.initialized "java/lang/IndexOutOfBoundsException") (by decide +kernel)) hstr (vx_hat (fun w h => hts w (List.mem_cons_of_mem _ (List.mem_append_right _ h))) ex_b147 (ex_u hX (List.mem_of_getElem? (i := 2) rfl))) ex_g147 hX.1 hX.2.1 hS (hl.1.trans hml.symm) dX5_edit_11 dX5_edit_14 dX5_edit_15 dX5_edit_17 dX5_edit_20 (fun x h => (htab x h).elim) (Nat.le_of_ble_eq_true rfl) (Nat.le_of_ble_eq_true rfl) (Nat.le_of_ble_eq_true rfl) (Nat.le_of_ble_eq_true rfl) hlocks (fun t h1 h2 h3 => ⟨M, trivial, ⟨⟨rfl, hq_5, rfl⟩, va_keep hP h3⟩, vx_fin hS h2 h3⟩) hS.2.2 (Nat.le_of_ble_eq_true rfl) (Nat.le_of_ble_eq_true rfl)

set_option maxHeartbeats 4000000 in
set_option maxRecDepth 100000 in
/-- bundle -/
theorem kX5_bundle (l : Launch) (hlt : l.stackTraces = false) {D : va_G} {cy ad : Nat → Nat} {n : Nat} {M : Mm} {A : Nat → Prop} (hD : ∀ M, va_D A (wd cy ad n M ++ [])) (hn : 137 ≤ n) {b : Nat} {x : Int32} (hb0 : M 0 7 = nI b) (hb1 : b ≤ 200) : vx_Met l yX5_bundle wsX5_bundle ({ frames := 6, cells := 1, slots := 6, locals := 86 }) (va_Pc [.ref (ad 0), .int x] (TW D cy (wd cy ad n M ++ []) A)) (va_Qi (S := Mm) (fun r u => 0 ≤ x.toInt ∧ x.toInt < (b : Int) ∧ r = M 7 (vN x) ∧ u = M) (fun u t => va_P D vwCl (wd cy ad n u ++ []) t.heap) A) (vx_X (S := Mm) (fun _ => True) (fun E u t => (E = "java/lang/IndexOutOfBoundsException" ∧ (x.toInt < 0 ∨ (b : Int) ≤ x.toInt) ∧ u = M) ∧ va_P D vwCl (wd cy ad n u ++ []) t.heap) A) 1 6 A := by
  refine vx_ofW (cc := cX5_bundle) (maxL := 2) (ret := (some .int)) (by decide) rfl ?_
  intro p e s m args below meth c s₁ B hml htab hv
  obtain ⟨rfl, hP, hE, hA, hX⟩ := hv
  have hx := B.exec
  have hb := B.bytes
  have hr := B.returns
  have hts := atoms_spec (ws := wsX5_bundle) B.pre
  have hown : s.vm.findClass RX5 = some m.cls := findClass_of_methodNamed B.named
  have hlocks := B.notSynchronized
  have hf42 : (Cond.fieldLink RX5 42 "RingPetition" "bundled" "[I").before #[.ref (ad 0), .int x] s = true := hts _ (by decide +kernel)
  have hf46 : (Cond.fieldLink RX5 46 "RingPetition" "bundledCount" "I").before #[.ref (ad 0), .int x] s = true := hts _ (by decide +kernel)
  have hin_RX5 : ∀ w ∈ u_ws RX5 TX5 11, w ∈ wsX5_bundle := by decide +kernel
  have hS : va_S A s.heap s.heap [] := va_S.rf
  have hl := lv_entry ([.ref (ad 0), .int x]) (n := 2) (Nat.le_of_ble_eq_true rfl)
  rw [lg_entry_eq]
  generalize (lg_sl ([.ref (ad 0), .int x]) ++ List.replicate (2 - (lg_sl ([.ref (ad 0), .int x])).length) Slot.unset).toArray = ls at hl ⊢
  have hl : lv_has ls 2 [(0, .ref (ad 0)), (1, .int x)] := hl
  refine lv_iload_n hx hb dX5_bundle_0 rfl (lv_at hl 1 rfl) ?_
  refine lv_if_lt (tgt := 12) hx hb dX5_bundle_1 (by decide) (fun c_1 => ?_) (fun c_1 => ?_)
  · have c_1 := (o_lt0 _).mp c_1
    obtain ⟨sa, hstr⟩ := hX.2.2.1 (199, "the bundle has no such int") (List.mem_of_getElem? (i := 14) rfl)
    exact vx_throwS (text := "the bundle has no such int") (names := exN) (ik := 147) (is := 199) (ic := 151) (A := A) hx hb hlt hown ex_c147 ex_n (hts (.classLink RX5 147 "java/lang/IndexOutOfBoundsException") (by decide +kernel)) (hts (.initialized "java/lang/IndexOutOfBoundsException") (by decide +kernel)) hstr (vx_hat (fun w h => hts w (List.mem_cons_of_mem _ (List.mem_append_right _ h))) ex_b147 (ex_u hX (List.mem_of_getElem? (i := 2) rfl))) ex_g147 hX.1 hX.2.1 hS (hl.1.trans hml.symm) dX5_bundle_12 dX5_bundle_15 dX5_bundle_16 dX5_bundle_18 dX5_bundle_21 (fun x h => (htab x h).elim) (Nat.le_of_ble_eq_true rfl) (Nat.le_of_ble_eq_true rfl) (Nat.le_of_ble_eq_true rfl) (Nat.le_of_ble_eq_true rfl) hlocks (fun t h1 h2 h3 => ⟨M, trivial, ⟨⟨rfl, by omega, rfl⟩, va_keep hP h3⟩, vx_fin hS h2 h3⟩) hS.2.2 (Nat.le_of_ble_eq_true rfl) (Nat.le_of_ble_eq_true rfl)
  · have c_1 := mt (o_lt0 _).mpr c_1
    refine lv_iload_n hx hb dX5_bundle_4 rfl (lv_at hl 1 rfl) ?_
    refine lv_aload_n hx hb dX5_bundle_5 rfl (lv_at hl 0 rfl) ?_
    refine va_get (D := D) (ci := 4) (v := .int (M 0 7)) (C := RX5) (T := TX5) (N := 11) hx hb hts hin_RX5 hown hE.1 hP 0 (wd_at (M := M) (show 0 < n by omega) ((g_0 cy ad) _)) rfl 7 (by decide) hf46 (fun _ h9 => h9) rfl dX5_bundle_6 ?_
    refine wr_top (y := (nI b)) hb0 ?_
    refine lv_icmp_lt (tgt := 22) hx hb dX5_bundle_9 (by decide) (fun c_9 => ?_) (fun c_9 => ?_)
    · have c_9 := (o_gt (by omega) _).mp c_9
      refine lv_aload_n hx hb dX5_bundle_22 rfl (lv_at hl 0 rfl) ?_
      refine va_get (D := D) (ci := 4) (v := .ref (ad 7)) (C := RX5) (T := TX5) (N := 11) hx hb hts hin_RX5 hown hE.1 hP 0 (wd_at (M := M) (show 0 < n by omega) ((g_0 cy ad) _)) rfl 6 (by decide) hf42 (fun _ h9 => h9) rfl dX5_bundle_23 ?_
      refine lv_iload_n hx hb dX5_bundle_26 rfl (lv_at hl 1 rfl) ?_
      refine wr_ald (cy := cy) (ad := ad) (ex := []) hx hb hE.1 hP 7 (show 7 < n by omega) ((g_7 cy ad) _) (vN x) (x_vN (by omega)) (by rw [vN_toInt]; omega) (by decide) dX5_bundle_27 ?_
      refine vx_ret ?_
      refine W.widen (k := 1) (n := 6) (Nat.le_of_ble_eq_true rfl) (Nat.le_of_ble_eq_true rfl) ?_
      exact W.iret (v := (M 7 (vN x))) hx hb hr (fun t ht hW => ⟨⟨(M 7 (vN x)), M, rfl, ⟨by omega, by omega, rfl, rfl⟩, (by show va_P D vwCl _ t.heap; rw [ht]; exact hP)⟩, hS.F ht⟩) hS.2.2 dX5_bundle_28
    · have c_9 := mt (o_gt (by omega) _).mpr c_9
      obtain ⟨sa, hstr⟩ := hX.2.2.1 (199, "the bundle has no such int") (List.mem_of_getElem? (i := 14) rfl)
      exact vx_throwS (text := "the bundle has no such int") (names := exN) (ik := 147) (is := 199) (ic := 151) (A := A) hx hb hlt hown ex_c147 ex_n (hts (.classLink RX5 147 "java/lang/IndexOutOfBoundsException") (by decide +kernel)) (hts (.initialized "java/lang/IndexOutOfBoundsException") (by decide +kernel)) hstr (vx_hat (fun w h => hts w (List.mem_cons_of_mem _ (List.mem_append_right _ h))) ex_b147 (ex_u hX (List.mem_of_getElem? (i := 2) rfl))) ex_g147 hX.1 hX.2.1 hS (hl.1.trans hml.symm) dX5_bundle_12 dX5_bundle_15 dX5_bundle_16 dX5_bundle_18 dX5_bundle_21 (fun x h => (htab x h).elim) (Nat.le_of_ble_eq_true rfl) (Nat.le_of_ble_eq_true rfl) (Nat.le_of_ble_eq_true rfl) (Nat.le_of_ble_eq_true rfl) hlocks (fun t h1 h2 h3 => ⟨M, trivial, ⟨⟨rfl, by omega, rfl⟩, va_keep hP h3⟩, vx_fin hS h2 h3⟩) hS.2.2 (Nat.le_of_ble_eq_true rfl) (Nat.le_of_ble_eq_true rfl)

set_option maxHeartbeats 4000000 in
set_option maxRecDepth 100000 in
/-- addToBundle -/
theorem kX5_addToBundle (l : Launch) {D : va_G} {cy ad : Nat → Nat} {n : Nat} {M : Mm} {A : Nat → Prop} (hD : ∀ M, va_D A (wd cy ad n M ++ [])) (hn : 137 ≤ n) {b : Nat} {x : Int32} (hb0 : M 0 7 = nI b) (hb1 : b < 200) : Met l yX5_addToBundle wsX5_addToBundle ({ frames := 0, cells := 0, slots := 0, locals := 0 }) (va_Pc [.ref (ad 0), .int x] (RW D cy (wd cy ad n M ++ []) A)) (va_Qv (S := Mm) (fun u => u = st (st M 7 b x) 0 7 (nI (b + 1))) (fun u t => va_P D vwCl (wd cy ad n u ++ []) t.heap) A) 0 0 A := by
  refine Met.ofW (cc := cX5_addToBundle) (maxL := 2) (ret := none) (by decide +kernel) rfl ?_
  intro p e s m args below meth c s₁ B hml hv
  obtain ⟨rfl, hP, hE, hA⟩ := hv
  have hx := B.exec
  have hb := B.bytes
  have hr := B.returns
  have hts := atoms_spec (ws := wsX5_addToBundle) B.pre
  have hown : s.vm.findClass RX5 = some m.cls := findClass_of_methodNamed B.named
  have hlocks := B.notSynchronized
  have hf42 : (Cond.fieldLink RX5 42 "RingPetition" "bundled" "[I").before #[.ref (ad 0), .int x] s = true := hts _ (by decide +kernel)
  have hf46 : (Cond.fieldLink RX5 46 "RingPetition" "bundledCount" "I").before #[.ref (ad 0), .int x] s = true := hts _ (by decide +kernel)
  have hin_RX5 : ∀ w ∈ u_ws RX5 TX5 11, w ∈ wsX5_addToBundle := by decide +kernel
  have hS : va_S A s.heap s.heap [] := va_S.rf
  have hl := lv_entry ([.ref (ad 0), .int x]) (n := 2) (Nat.le_of_ble_eq_true rfl)
  rw [lg_entry_eq]
  generalize (lg_sl ([.ref (ad 0), .int x]) ++ List.replicate (2 - (lg_sl ([.ref (ad 0), .int x])).length) Slot.unset).toArray = ls at hl ⊢
  have hl : lv_has ls 2 [(0, .ref (ad 0)), (1, .int x)] := hl
  refine lv_aload_n hx hb dX5_addToBundle_0 rfl (lv_at hl 0 rfl) ?_
  refine va_get (D := D) (ci := 4) (v := .int (M 0 7)) (C := RX5) (T := TX5) (N := 11) hx hb hts hin_RX5 hown hE.1 hP 0 (wd_at (M := M) (show 0 < n by omega) ((g_0 cy ad) _)) rfl 7 (by decide) hf46 (fun _ h9 => h9) rfl dX5_addToBundle_1 ?_
  refine wr_top (y := (nI b)) hb0 ?_
  refine lv_sipush (v := (nI 200)) hx hb dX5_addToBundle_4 (by decide) ?_
  refine lv_icmp_ge (tgt := 30) hx hb dX5_addToBundle_7 (by decide) (fun c_7 => ?_) (fun c_7 => ?_)
  · have c_7 := (nI_leI (by omega) (by omega)).mp c_7
    exfalso; omega
  · have c_7 := mt (nI_leI (by omega) (by omega)).mpr c_7
    refine lv_aload_n hx hb dX5_addToBundle_10 rfl (lv_at hl 0 rfl) ?_
    refine va_get (D := D) (ci := 4) (v := .ref (ad 7)) (C := RX5) (T := TX5) (N := 11) hx hb hts hin_RX5 hown hE.1 hP 0 (wd_at (M := M) (show 0 < n by omega) ((g_0 cy ad) _)) rfl 6 (by decide) hf42 (fun _ h9 => h9) rfl dX5_addToBundle_11 ?_
    refine lv_aload_n hx hb dX5_addToBundle_14 rfl (lv_at hl 0 rfl) ?_
    refine va_get (D := D) (ci := 4) (v := .int (M 0 7)) (C := RX5) (T := TX5) (N := 11) hx hb hts hin_RX5 hown hE.1 hP 0 (wd_at (M := M) (show 0 < n by omega) ((g_0 cy ad) _)) rfl 7 (by decide) hf46 (fun _ h9 => h9) rfl dX5_addToBundle_15 ?_
    refine wr_top (y := (nI b)) hb0 ?_
    refine lv_iload_n hx hb dX5_addToBundle_18 rfl (lv_at hl 1 rfl) ?_
    refine wr_ast (cy := cy) (ad := ad) (ex := []) hx hb hE.1 hP hD hS 7 (show 7 < n by omega) (g_7 cy ad) b rfl (by omega) (by decide) dX5_addToBundle_19 (fun H locs hP hS => ?_)
    refine lv_aload_n hx hb dX5_addToBundle_20 rfl (lv_at hl 0 rfl) ?_
    refine lv_dup hx hb dX5_addToBundle_21 rfl ?_
    refine va_get (D := D) (ci := 4) (v := .int ((st M 7 b x) 0 7)) (C := RX5) (T := TX5) (N := 11) hx hb hts hin_RX5 hown hE.1 hP 0 (wd_at (M := (st M 7 b x)) (show 0 < n by omega) ((g_0 cy ad) _)) rfl 7 (by decide) hf46 (fun _ h9 => h9) rfl dX5_addToBundle_22 ?_
    refine wr_top (y := (nI b)) (by rw [st_r _ _ _ (by decide)]; exact hb0) ?_
    refine lv_iconst (v := (nI 1)) hx hb dX5_addToBundle_25 (by decide) ?_
    refine lv_iadd hx hb dX5_addToBundle_26 ?_
    refine wr_top (y := (nI (b + 1))) (nI_add _ _) ?_
    refine wr_put (cy := cy) (ad := ad) (ex := []) (ci := 4) (C := RX5) (T := TX5) (N := 11) (ty := .int) hx hb hts hin_RX5 tyX5 tyX5_ok nmX5 hown hE.1 hP hD hS 0 (show 0 < n by omega) ((g_0 cy ad) _) rfl 7 (by decide) hf46 (fun _ h9 => h9) rfl (by decide +kernel) rfl rfl (by simp) (((g_0 cy ad) _).trans (by simp [st_at])) dX5_addToBundle_27 (fun H locs hP hS => ?_)
    exact W.vret hx hb hr (fun t ht hW => ⟨⟨(st (st M 7 b x) 0 7 (nI (b + 1))), rfl, rfl, (by show va_P D vwCl _ t.heap; rw [ht]; exact hP)⟩, hS.F ht⟩) hS.2.2 dX5_addToBundle_30

set_option maxHeartbeats 4000000 in
set_option maxRecDepth 100000 in
/-- poke -/
theorem kX5_poke (l : Launch) (hlt : l.stackTraces = false) {D : va_G} {cy ad : Nat → Nat} {n : Nat} {M : Mm} {A : Nat → Prop} (hD : ∀ M, va_D A (wd cy ad n M ++ [])) (hn : 137 ≤ n) {b : Nat} {x v : Int32} (hb0 : M 0 7 = nI b) (hb1 : b ≤ 200) : vx_Met l yX5_poke wsX5_poke ({ frames := 6, cells := 1, slots := 6, locals := 86 }) (va_Pc [.ref (ad 0), .int x, .int v] (TW D cy (wd cy ad n M ++ []) A)) (va_Qv (S := Mm) (fun u => 0 ≤ x.toInt ∧ x.toInt ≤ (b : Int) ∧ x.toInt < 200 ∧ u = (if x.toInt = (b : Int) then st (st M 7 b v) 0 7 (nI (b + 1)) else st M 7 (vN x) v)) (fun u t => va_P D vwCl (wd cy ad n u ++ []) t.heap) A) (vx_X (S := Mm) (fun _ => True) (fun E u t => (E = "java/lang/IndexOutOfBoundsException" ∧ (x.toInt < 0 ∨ (b : Int) < x.toInt ∨ 200 ≤ x.toInt) ∧ u = M) ∧ va_P D vwCl (wd cy ad n u ++ []) t.heap) A) 1 6 A := by
  refine vx_ofW (cc := cX5_poke) (maxL := 3) (ret := none) (by decide) rfl ?_
  intro p e s m args below meth c s₁ B hml htab hv
  obtain ⟨rfl, hP, hE, hA, hX⟩ := hv
  have hx := B.exec
  have hb := B.bytes
  have hr := B.returns
  have hts := atoms_spec (ws := wsX5_poke) B.pre
  have hown : s.vm.findClass RX5 = some m.cls := findClass_of_methodNamed B.named
  have hlocks := B.notSynchronized
  have hf42 : (Cond.fieldLink RX5 42 "RingPetition" "bundled" "[I").before #[.ref (ad 0), .int x, .int v] s = true := hts _ (by decide +kernel)
  have hf46 : (Cond.fieldLink RX5 46 "RingPetition" "bundledCount" "I").before #[.ref (ad 0), .int x, .int v] s = true := hts _ (by decide +kernel)
  have hin_RX5 : ∀ w ∈ u_ws RX5 TX5 11, w ∈ wsX5_poke := by decide +kernel
  have hS : va_S A s.heap s.heap [] := va_S.rf
  have hl := lv_entry ([.ref (ad 0), .int x, .int v]) (n := 3) (Nat.le_of_ble_eq_true rfl)
  rw [lg_entry_eq]
  generalize (lg_sl ([.ref (ad 0), .int x, .int v]) ++ List.replicate (3 - (lg_sl ([.ref (ad 0), .int x, .int v])).length) Slot.unset).toArray = ls at hl ⊢
  have hl : lv_has ls 3 [(0, .ref (ad 0)), (1, .int x), (2, .int v)] := hl
  refine lv_iload_n hx hb dX5_poke_0 rfl (lv_at hl 1 rfl) ?_
  refine lv_if_lt (tgt := 19) hx hb dX5_poke_1 (by decide) (fun c_1 => ?_) (fun c_1 => ?_)
  · have c_1 := (o_lt0 _).mp c_1
    obtain ⟨sa, hstr⟩ := hX.2.2.1 (201, "the bundle has no room there") (List.mem_of_getElem? (i := 15) rfl)
    exact vx_throwS (text := "the bundle has no room there") (names := exN) (ik := 147) (is := 201) (ic := 151) (A := A) hx hb hlt hown ex_c147 ex_n (hts (.classLink RX5 147 "java/lang/IndexOutOfBoundsException") (by decide +kernel)) (hts (.initialized "java/lang/IndexOutOfBoundsException") (by decide +kernel)) hstr (vx_hat (fun w h => hts w (List.mem_cons_of_mem _ (List.mem_append_right _ h))) ex_b147 (ex_u hX (List.mem_of_getElem? (i := 2) rfl))) ex_g147 hX.1 hX.2.1 hS (hl.1.trans hml.symm) dX5_poke_19 dX5_poke_22 dX5_poke_23 dX5_poke_25 dX5_poke_28 (fun x h => (htab x h).elim) (Nat.le_of_ble_eq_true rfl) (Nat.le_of_ble_eq_true rfl) (Nat.le_of_ble_eq_true rfl) (Nat.le_of_ble_eq_true rfl) hlocks (fun t h1 h2 h3 => ⟨M, trivial, ⟨⟨rfl, by omega, rfl⟩, va_keep hP h3⟩, vx_fin hS h2 h3⟩) hS.2.2 (Nat.le_of_ble_eq_true rfl) (Nat.le_of_ble_eq_true rfl)
  · have c_1 := mt (o_lt0 _).mpr c_1
    refine lv_iload_n hx hb dX5_poke_4 rfl (lv_at hl 1 rfl) ?_
    refine lv_aload_n hx hb dX5_poke_5 rfl (lv_at hl 0 rfl) ?_
    refine va_get (D := D) (ci := 4) (v := .int (M 0 7)) (C := RX5) (T := TX5) (N := 11) hx hb hts hin_RX5 hown hE.1 hP 0 (wd_at (M := M) (show 0 < n by omega) ((g_0 cy ad) _)) rfl 7 (by decide) hf46 (fun _ h9 => h9) rfl dX5_poke_6 ?_
    refine wr_top (y := (nI b)) hb0 ?_
    refine lv_icmp_gt (tgt := 19) hx hb dX5_poke_9 (by decide) (fun c_9 => ?_) (fun c_9 => ?_)
    · have c_9 := (o_lt (by omega) _).mp c_9
      obtain ⟨sa, hstr⟩ := hX.2.2.1 (201, "the bundle has no room there") (List.mem_of_getElem? (i := 15) rfl)
      exact vx_throwS (text := "the bundle has no room there") (names := exN) (ik := 147) (is := 201) (ic := 151) (A := A) hx hb hlt hown ex_c147 ex_n (hts (.classLink RX5 147 "java/lang/IndexOutOfBoundsException") (by decide +kernel)) (hts (.initialized "java/lang/IndexOutOfBoundsException") (by decide +kernel)) hstr (vx_hat (fun w h => hts w (List.mem_cons_of_mem _ (List.mem_append_right _ h))) ex_b147 (ex_u hX (List.mem_of_getElem? (i := 2) rfl))) ex_g147 hX.1 hX.2.1 hS (hl.1.trans hml.symm) dX5_poke_19 dX5_poke_22 dX5_poke_23 dX5_poke_25 dX5_poke_28 (fun x h => (htab x h).elim) (Nat.le_of_ble_eq_true rfl) (Nat.le_of_ble_eq_true rfl) (Nat.le_of_ble_eq_true rfl) (Nat.le_of_ble_eq_true rfl) hlocks (fun t h1 h2 h3 => ⟨M, trivial, ⟨⟨rfl, by omega, rfl⟩, va_keep hP h3⟩, vx_fin hS h2 h3⟩) hS.2.2 (Nat.le_of_ble_eq_true rfl) (Nat.le_of_ble_eq_true rfl)
    · have c_9 := mt (o_lt (by omega) _).mpr c_9
      refine lv_iload_n hx hb dX5_poke_12 rfl (lv_at hl 1 rfl) ?_
      refine lv_sipush (v := (nI 200)) hx hb dX5_poke_13 (by decide) ?_
      refine lv_icmp_lt (tgt := 29) hx hb dX5_poke_16 (by decide) (fun c_16 => ?_) (fun c_16 => ?_)
      · have c_16 := (o_gt (by omega) _).mp c_16
        refine lv_iload_n hx hb dX5_poke_29 rfl (lv_at hl 1 rfl) ?_
        refine lv_aload_n hx hb dX5_poke_30 rfl (lv_at hl 0 rfl) ?_
        refine va_get (D := D) (ci := 4) (v := .int (M 0 7)) (C := RX5) (T := TX5) (N := 11) hx hb hts hin_RX5 hown hE.1 hP 0 (wd_at (M := M) (show 0 < n by omega) ((g_0 cy ad) _)) rfl 7 (by decide) hf46 (fun _ h9 => h9) rfl dX5_poke_31 ?_
        refine wr_top (y := (nI b)) hb0 ?_
        refine lv_icmp_ne (tgt := 45) hx hb dX5_poke_34 (by decide) (fun c_34 => ?_) (fun c_34 => ?_)
        · have c_34 := mt (o_eq (by omega) _).mpr c_34
          refine lv_aload_n hx hb dX5_poke_45 rfl (lv_at hl 0 rfl) ?_
          refine va_get (D := D) (ci := 4) (v := .ref (ad 7)) (C := RX5) (T := TX5) (N := 11) hx hb hts hin_RX5 hown hE.1 hP 0 (wd_at (M := M) (show 0 < n by omega) ((g_0 cy ad) _)) rfl 6 (by decide) hf42 (fun _ h9 => h9) rfl dX5_poke_46 ?_
          refine lv_iload_n hx hb dX5_poke_49 rfl (lv_at hl 1 rfl) ?_
          refine lv_iload_n hx hb dX5_poke_50 rfl (lv_at hl 2 rfl) ?_
          refine wr_ast (cy := cy) (ad := ad) (ex := []) hx hb hE.1 hP hD hS 7 (show 7 < n by omega) (g_7 cy ad) (vN x) (x_vN (by omega)) (by rw [vN_toInt]; omega) (by decide) dX5_poke_51 (fun H locs hP hS => ?_)
          refine vx_ret ?_
          refine W.widen (k := 1) (n := 6) (Nat.le_of_ble_eq_true rfl) (Nat.le_of_ble_eq_true rfl) ?_
          exact W.vret hx hb hr (fun t ht hW => ⟨⟨(st M 7 (vN x) v), rfl, ⟨by omega, by omega, by omega, by rw [if_neg (by omega)]⟩, (by show va_P D vwCl _ t.heap; rw [ht]; exact hP)⟩, hS.F ht⟩) hS.2.2 dX5_poke_52
        · have c_34 := (o_eq (by omega) _).mp c_34
          refine lv_aload_n hx hb dX5_poke_37 rfl (lv_at hl 0 rfl) ?_
          refine lv_iload_n hx hb dX5_poke_38 rfl (lv_at hl 2 rfl) ?_
          refine va_callv (va_runV (As := [.int v]) (rest := []) ⟨hx, hb, hml, hown, hts⟩ (kX5_addToBundle l hD hn hb0 (by omega)) (cwV 1 hts gX5_poke_X5_addToBundle rfl rfl rfl (by decide +kernel) ⟨Nat.le_of_ble_eq_true rfl, Nat.le_of_ble_eq_true rfl⟩) (rw_pv (ci := 4) (q := (RX5, TX5, 11)) hE hP hS hA rfl (wd_at (M := M) (show 0 < n by omega) ((g_0 cy ad) _))) rfl rfl hl.1 rfl (lv_room (Nat.le_of_ble_eq_true rfl)) dX5_poke_39 ⟨Nat.le_of_ble_eq_true rfl, Nat.le_of_ble_eq_true rfl⟩) hS (fun q _ h => h) (fun q h => h) (fun u_39 t H1 locs ht hvm hr_39 hB_39 hz1 hk1 hS => ?_)
          have hP : va_P D vwCl (wd cy ad n u_39 ++ []) H1 := by rw [← ht]; exact hB_39
          clear hB_39 ht hvm hz1 hk1
          generalize H1 = H at hP hS ⊢
          subst hr_39
          refine lv_goto (tgt := 52) hx hb dX5_poke_42 (by decide) ?_
          refine vx_ret ?_
          refine W.widen (k := 1) (n := 6) (Nat.le_of_ble_eq_true rfl) (Nat.le_of_ble_eq_true rfl) ?_
          exact W.vret hx hb hr (fun t ht hW => ⟨⟨(st (st M 7 b v) 0 7 (nI (b + 1))), rfl, ⟨by omega, by omega, by omega, by rw [if_pos (by omega)]⟩, (by show va_P D vwCl _ t.heap; rw [ht]; exact hP)⟩, hS.F ht⟩) hS.2.2 dX5_poke_52
      · have c_16 := mt (o_gt (by omega) _).mpr c_16
        obtain ⟨sa, hstr⟩ := hX.2.2.1 (201, "the bundle has no room there") (List.mem_of_getElem? (i := 15) rfl)
        exact vx_throwS (text := "the bundle has no room there") (names := exN) (ik := 147) (is := 201) (ic := 151) (A := A) hx hb hlt hown ex_c147 ex_n (hts (.classLink RX5 147 "java/lang/IndexOutOfBoundsException") (by decide +kernel)) (hts (.initialized "java/lang/IndexOutOfBoundsException") (by decide +kernel)) hstr (vx_hat (fun w h => hts w (List.mem_cons_of_mem _ (List.mem_append_right _ h))) ex_b147 (ex_u hX (List.mem_of_getElem? (i := 2) rfl))) ex_g147 hX.1 hX.2.1 hS (hl.1.trans hml.symm) dX5_poke_19 dX5_poke_22 dX5_poke_23 dX5_poke_25 dX5_poke_28 (fun x h => (htab x h).elim) (Nat.le_of_ble_eq_true rfl) (Nat.le_of_ble_eq_true rfl) (Nat.le_of_ble_eq_true rfl) (Nat.le_of_ble_eq_true rfl) hlocks (fun t h1 h2 h3 => ⟨M, trivial, ⟨⟨rfl, by omega, rfl⟩, va_keep hP h3⟩, vx_fin hS h2 h3⟩) hS.2.2 (Nat.le_of_ble_eq_true rfl) (Nat.le_of_ble_eq_true rfl)

set_option maxHeartbeats 4000000 in
set_option maxRecDepth 100000 in
/-- cut -/
theorem kX5_cut (l : Launch) (hlt : l.stackTraces = false) {D : va_G} {cy ad : Nat → Nat} {n : Nat} {M : Mm} {A : Nat → Prop} (hD : ∀ M, va_D A (wd cy ad n M ++ [])) (hn : 137 ≤ n) {b : Nat} {x : Int32} (hb0 : M 0 7 = nI b) (hb1 : b ≤ 200) : vx_Met l yX5_cut wsX5_cut ({ frames := 6, cells := 1, slots := 6, locals := 86 }) (va_Pc [.ref (ad 0), .int x] (TW D cy (wd cy ad n M ++ []) A)) (va_Qv (S := Mm) (fun u => 0 ≤ x.toInt ∧ x.toInt ≤ (b : Int) ∧ u = st M 0 7 x) (fun u t => va_P D vwCl (wd cy ad n u ++ []) t.heap) A) (vx_X (S := Mm) (fun _ => True) (fun E u t => (E = "java/lang/IllegalArgumentException" ∧ (x.toInt < 0 ∨ (b : Int) < x.toInt) ∧ u = M) ∧ va_P D vwCl (wd cy ad n u ++ []) t.heap) A) 1 6 A := by
  refine vx_ofW (cc := cX5_cut) (maxL := 2) (ret := none) (by decide) rfl ?_
  intro p e s m args below meth c s₁ B hml htab hv
  obtain ⟨rfl, hP, hE, hA, hX⟩ := hv
  have hx := B.exec
  have hb := B.bytes
  have hr := B.returns
  have hts := atoms_spec (ws := wsX5_cut) B.pre
  have hown : s.vm.findClass RX5 = some m.cls := findClass_of_methodNamed B.named
  have hlocks := B.notSynchronized
  have hf46 : (Cond.fieldLink RX5 46 "RingPetition" "bundledCount" "I").before #[.ref (ad 0), .int x] s = true := hts _ (by decide +kernel)
  have hin_RX5 : ∀ w ∈ u_ws RX5 TX5 11, w ∈ wsX5_cut := by decide +kernel
  have hS : va_S A s.heap s.heap [] := va_S.rf
  have hl := lv_entry ([.ref (ad 0), .int x]) (n := 2) (Nat.le_of_ble_eq_true rfl)
  rw [lg_entry_eq]
  generalize (lg_sl ([.ref (ad 0), .int x]) ++ List.replicate (2 - (lg_sl ([.ref (ad 0), .int x])).length) Slot.unset).toArray = ls at hl ⊢
  have hl : lv_has ls 2 [(0, .ref (ad 0)), (1, .int x)] := hl
  refine lv_iload_n hx hb dX5_cut_0 rfl (lv_at hl 1 rfl) ?_
  refine lv_if_lt (tgt := 12) hx hb dX5_cut_1 (by decide) (fun c_1 => ?_) (fun c_1 => ?_)
  · have c_1 := (o_lt0 _).mp c_1
    obtain ⟨sa, hstr⟩ := hX.2.2.1 (203, "the bundle has fewer ints") (List.mem_of_getElem? (i := 16) rfl)
    exact vx_throwS (text := "the bundle has fewer ints") (names := exN) (ik := 68) (is := 203) (ic := 72) (A := A) hx hb hlt hown ex_c68 ex_n (hts (.classLink RX5 68 "java/lang/IllegalArgumentException") (by decide +kernel)) (hts (.initialized "java/lang/IllegalArgumentException") (by decide +kernel)) hstr (vx_hat (fun w h => hts w (List.mem_cons_of_mem _ (List.mem_append_right _ h))) ex_b68 (ex_u hX (List.mem_of_getElem? (i := 0) rfl))) ex_g68 hX.1 hX.2.1 hS (hl.1.trans hml.symm) dX5_cut_12 dX5_cut_15 dX5_cut_16 dX5_cut_18 dX5_cut_21 (fun x h => (htab x h).elim) (Nat.le_of_ble_eq_true rfl) (Nat.le_of_ble_eq_true rfl) (Nat.le_of_ble_eq_true rfl) (Nat.le_of_ble_eq_true rfl) hlocks (fun t h1 h2 h3 => ⟨M, trivial, ⟨⟨rfl, by omega, rfl⟩, va_keep hP h3⟩, vx_fin hS h2 h3⟩) hS.2.2 (Nat.le_of_ble_eq_true rfl) (Nat.le_of_ble_eq_true rfl)
  · have c_1 := mt (o_lt0 _).mpr c_1
    refine lv_iload_n hx hb dX5_cut_4 rfl (lv_at hl 1 rfl) ?_
    refine lv_aload_n hx hb dX5_cut_5 rfl (lv_at hl 0 rfl) ?_
    refine va_get (D := D) (ci := 4) (v := .int (M 0 7)) (C := RX5) (T := TX5) (N := 11) hx hb hts hin_RX5 hown hE.1 hP 0 (wd_at (M := M) (show 0 < n by omega) ((g_0 cy ad) _)) rfl 7 (by decide) hf46 (fun _ h9 => h9) rfl dX5_cut_6 ?_
    refine wr_top (y := (nI b)) hb0 ?_
    refine lv_icmp_le (tgt := 22) hx hb dX5_cut_9 (by decide) (fun c_9 => ?_) (fun c_9 => ?_)
    · have c_9 := (o_ge (by omega) _).mp c_9
      refine lv_aload_n hx hb dX5_cut_22 rfl (lv_at hl 0 rfl) ?_
      refine lv_iload_n hx hb dX5_cut_23 rfl (lv_at hl 1 rfl) ?_
      refine wr_put (cy := cy) (ad := ad) (ex := []) (ci := 4) (C := RX5) (T := TX5) (N := 11) (ty := .int) hx hb hts hin_RX5 tyX5 tyX5_ok nmX5 hown hE.1 hP hD hS 0 (show 0 < n by omega) ((g_0 cy ad) _) rfl 7 (by decide) hf46 (fun _ h9 => h9) rfl (by decide +kernel) rfl rfl (by simp) (((g_0 cy ad) _).trans (by simp [st_at])) dX5_cut_24 (fun H locs hP hS => ?_)
      refine vx_ret ?_
      refine W.widen (k := 1) (n := 6) (Nat.le_of_ble_eq_true rfl) (Nat.le_of_ble_eq_true rfl) ?_
      exact W.vret hx hb hr (fun t ht hW => ⟨⟨(st M 0 7 x), rfl, ⟨by omega, by omega, rfl⟩, (by show va_P D vwCl _ t.heap; rw [ht]; exact hP)⟩, hS.F ht⟩) hS.2.2 dX5_cut_27
    · have c_9 := mt (o_ge (by omega) _).mpr c_9
      obtain ⟨sa, hstr⟩ := hX.2.2.1 (203, "the bundle has fewer ints") (List.mem_of_getElem? (i := 16) rfl)
      exact vx_throwS (text := "the bundle has fewer ints") (names := exN) (ik := 68) (is := 203) (ic := 72) (A := A) hx hb hlt hown ex_c68 ex_n (hts (.classLink RX5 68 "java/lang/IllegalArgumentException") (by decide +kernel)) (hts (.initialized "java/lang/IllegalArgumentException") (by decide +kernel)) hstr (vx_hat (fun w h => hts w (List.mem_cons_of_mem _ (List.mem_append_right _ h))) ex_b68 (ex_u hX (List.mem_of_getElem? (i := 0) rfl))) ex_g68 hX.1 hX.2.1 hS (hl.1.trans hml.symm) dX5_cut_12 dX5_cut_15 dX5_cut_16 dX5_cut_18 dX5_cut_21 (fun x h => (htab x h).elim) (Nat.le_of_ble_eq_true rfl) (Nat.le_of_ble_eq_true rfl) (Nat.le_of_ble_eq_true rfl) (Nat.le_of_ble_eq_true rfl) hlocks (fun t h1 h2 h3 => ⟨M, trivial, ⟨⟨rfl, by omega, rfl⟩, va_keep hP h3⟩, vx_fin hS h2 h3⟩) hS.2.2 (Nat.le_of_ble_eq_true rfl) (Nat.le_of_ble_eq_true rfl)
