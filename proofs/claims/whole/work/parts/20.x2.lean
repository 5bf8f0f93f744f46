set_option maxHeartbeats 4000000 in
set_option maxRecDepth 100000 in
/-- Numbers.power -/
theorem kX2_power (l : Launch) {b e0 : Nat} (hb0 : b < 2027) (he0 : e0 < 2 ^ 10) : Met l yX2_power wsX2_power ({ frames := 0, cells := 0, slots := 0, locals := 0 }) (va_Pc [.int (nI b), .int (nI e0)] (fun _ => True)) (vp_Si (fun r => r = nI (b ^ e0 % 2027))) 0 0 (fun _ => False) := by
  refine Met.ofW (cc := cX2_power) (maxL := 5) (ret := (some .int)) (by decide +kernel) rfl ?_
  intro p e s m args below meth c s₁ B hml hv
  obtain ⟨rfl, -⟩ := hv
  have hx := B.exec
  have hb := B.bytes
  have hr := B.returns
  have hts := atoms_spec (ws := wsX2_power) B.pre
  have hown : s.vm.findClass RX2 = some m.cls := findClass_of_methodNamed B.named
  have hlocks := B.notSynchronized
  have hl := lv_entry ([.int (nI b), .int (nI e0)]) (n := 5) (Nat.le_of_ble_eq_true rfl)
  rw [lg_entry_eq]
  generalize (lg_sl ([.int (nI b), .int (nI e0)]) ++ List.replicate (5 - (lg_sl ([.int (nI b), .int (nI e0)])).length) Slot.unset).toArray = ls at hl ⊢
  have hl : lv_has ls 5 [(0, .int (nI b)), (1, .int (nI e0))] := hl
  refine lv_iconst (v := (nI 1)) hx hb dX2_power_0 (by decide) ?_
  refine lv_istore_n (lv' := [(2, .int (nI 1)), (0, .int (nI b)), (1, .int (nI e0))]) hx hb dX2_power_1 rfl hl (by decide) rfl (fun ls hl => ?_)
  refine lv_iload_n hx hb dX2_power_2 rfl (lv_at hl 1 rfl) ?_
  refine lv_istore_n (lv' := [(3, .int (nI b)), (2, .int (nI 1)), (0, .int (nI b)), (1, .int (nI e0))]) hx hb dX2_power_3 rfl hl (by decide) rfl (fun ls hl => ?_)
  refine lv_iconst (v := (nI 0)) hx hb dX2_power_4 (by decide) ?_
  refine lv_istore (lv' := [(4, .int (nI 0)), (3, .int (nI b)), (2, .int (nI 1)), (0, .int (nI b)), (1, .int (nI e0))]) hx hb dX2_power_5 hl (by decide) rfl (fun ls hl => ?_)
  refine wloopR (fun kq (xq : Nat × Nat × Nat) ls => match xq with | (i, sq, pr) => kq = 10 - i ∧ (i ≤ 10 ∧ i < 11 ∧ sq = b ^ (2 ^ i) % 2027 ∧ pr = b ^ (e0 % 2 ^ i) % 2027 ∧ pr < 2027 ∧ sq < 2027) ∧ lv_has ls 5 [(4, .int (nI i)), (3, .int (nI sq)), (2, .int (nI pr)), (0, .int (nI b)), (1, .int (nI e0))]) (fun k7 x7 ls h7 ih7 => ?_) _ (0, b, 1) ls ⟨rfl, ⟨by decide, by decide, by rw [Nat.pow_zero, Nat.pow_one]; exact (Nat.mod_eq_of_lt hb0).symm, by rw [Nat.pow_zero, Nat.mod_one, Nat.pow_zero], by decide, hb0⟩, lv_sub hl [0, 1, 2, 3, 4] rfl⟩
  obtain ⟨i, sq, pr⟩ := x7
  obtain ⟨hk7, hI, hl⟩ := h7
  refine lv_iload hx hb dX2_power_7 (lv_at hl 0 rfl) ?_
  refine lv_bipush (v := (nI 10)) hx hb dX2_power_9 (by decide) ?_
  refine lv_icmp_ge (tgt := 46) hx hb dX2_power_11 (by decide) (fun c_11 => ?_) (fun c_11 => ?_)
  · have c_11 := (nI_leI (by omega) (by omega)).mp c_11
    refine lv_iload_n hx hb dX2_power_46 rfl (lv_at hl 2 rfl) ?_
    exact W.iret (v := (nI pr)) hx hb hr (fun t ht hW => ⟨(nI pr), rfl, by rw [hI.2.2.2.1, show i = 10 by omega, Nat.mod_eq_of_lt (a := e0) (b := 2 ^ 10) he0], ht⟩) (fun q h => nomatch h) dX2_power_47
  · have c_11 := mt (nI_leI (by omega) (by omega)).mpr c_11
    refine lv_iload_n hx hb dX2_power_14 rfl (lv_at hl 4 rfl) ?_
    refine lv_iload hx hb dX2_power_15 (lv_at hl 0 rfl) ?_
    refine lv_iushr (v := uS (nI e0) (nI i)) hx hb dX2_power_17 rfl ?_
    refine wr_top (y := (nI (e0 / 2 ^ i))) (uS_nI (by omega) (by omega)) ?_
    refine lv_iconst (v := (nI 1)) hx hb dX2_power_18 (by decide) ?_
    refine lv_iand hx hb dX2_power_19 ?_
    refine wr_top (y := (nI (e0 / 2 ^ i % 2 ^ 1))) (pk_andN (Nat.lt_of_le_of_lt (Nat.div_le_self _ _) (by omega)) 1 (by decide)) ?_
    refine lv_iconst (v := (nI 1)) hx hb dX2_power_20 (by decide) ?_
    refine lv_icmp_ne (tgt := 32) hx hb dX2_power_21 (by decide) (fun c_21 => ?_) (fun c_21 => ?_)
    · have hb2 : e0 / 2 ^ i % 2 ^ 1 < 2 ^ 31 := Nat.lt_of_lt_of_le (Nat.mod_lt _ (by decide)) (by decide)
      have hbit := mt (nI_eq hb2 (by decide)).mpr c_21
      refine lv_iload_n hx hb dX2_power_32 rfl (lv_at hl 1 rfl) ?_
      refine lv_iload_n hx hb dX2_power_33 rfl (lv_at hl 1 rfl) ?_
      refine lv_imul hx hb dX2_power_34 ?_
      refine wr_top (y := (nI (sq * sq))) (pk_mul _ _) ?_
      refine lv_sipush (v := (nI 2027)) hx hb dX2_power_35 (by decide) ?_
      refine lv_irem hx hb dX2_power_38 (by decide) ?_
      refine wr_top (y := (nI ((sq * sq) % 2027))) (pk_rem (by exact mul_small hI.2.2.2.2.2 hI.2.2.2.2.2) (by decide) (by decide)) ?_
      refine lv_istore_n (lv' := [(3, .int (nI ((sq * sq) % 2027))), (4, .int (nI i)), (2, .int (nI pr)), (0, .int (nI b)), (1, .int (nI e0))]) hx hb dX2_power_39 rfl hl (by decide) rfl (fun ls hl => ?_)
      refine lv_iinc (v := (nI (i + 1))) (lv' := [(4, .int (nI (i + 1))), (3, .int (nI ((sq * sq) % 2027))), (2, .int (nI pr)), (0, .int (nI b)), (1, .int (nI e0))]) hx hb dX2_power_40 hl (k := 1) rfl (nI_1 _) (by decide) rfl (fun ls hl => ?_)
      refine lv_goto (tgt := 7) hx hb dX2_power_43 (by decide) ?_
      exact ih7 _ (i + 1, ((sq * sq) % 2027), pr) _ (by omega) ⟨rfl, ⟨by omega, by omega, by rw [hI.2.2.1]; exact pw_sq b i, by rw [hI.2.2.2.1]; exact pw_0 hbit, by exact hI.2.2.2.2.1, by exact Nat.mod_lt _ (by decide)⟩, (lv_sub hl [0, 1, 2, 3, 4] rfl)⟩
    · have hb2 : e0 / 2 ^ i % 2 ^ 1 < 2 ^ 31 := Nat.lt_of_lt_of_le (Nat.mod_lt _ (by decide)) (by decide)
      have hbit := (nI_eq hb2 (by decide)).mp c_21
      refine lv_iload_n hx hb dX2_power_24 rfl (lv_at hl 2 rfl) ?_
      refine lv_iload_n hx hb dX2_power_25 rfl (lv_at hl 1 rfl) ?_
      refine lv_imul hx hb dX2_power_26 ?_
      refine wr_top (y := (nI (pr * sq))) (pk_mul _ _) ?_
      refine lv_sipush (v := (nI 2027)) hx hb dX2_power_27 (by decide) ?_
      refine lv_irem hx hb dX2_power_30 (by decide) ?_
      refine wr_top (y := (nI ((pr * sq) % 2027))) (pk_rem (by exact mul_small hI.2.2.2.2.1 hI.2.2.2.2.2) (by decide) (by decide)) ?_
      refine lv_istore_n (lv' := [(2, .int (nI ((pr * sq) % 2027))), (4, .int (nI i)), (3, .int (nI sq)), (0, .int (nI b)), (1, .int (nI e0))]) hx hb dX2_power_31 rfl hl (by decide) rfl (fun ls hl => ?_)
      refine lv_iload_n hx hb dX2_power_32 rfl (lv_at hl 2 rfl) ?_
      refine lv_iload_n hx hb dX2_power_33 rfl (lv_at hl 2 rfl) ?_
      refine lv_imul hx hb dX2_power_34 ?_
      refine wr_top (y := (nI (sq * sq))) (pk_mul _ _) ?_
      refine lv_sipush (v := (nI 2027)) hx hb dX2_power_35 (by decide) ?_
      refine lv_irem hx hb dX2_power_38 (by decide) ?_
      refine wr_top (y := (nI ((sq * sq) % 2027))) (pk_rem (by exact mul_small hI.2.2.2.2.2 hI.2.2.2.2.2) (by decide) (by decide)) ?_
      refine lv_istore_n (lv' := [(3, .int (nI ((sq * sq) % 2027))), (2, .int (nI ((pr * sq) % 2027))), (4, .int (nI i)), (0, .int (nI b)), (1, .int (nI e0))]) hx hb dX2_power_39 rfl hl (by decide) rfl (fun ls hl => ?_)
      refine lv_iinc (v := (nI (i + 1))) (lv' := [(4, .int (nI (i + 1))), (3, .int (nI ((sq * sq) % 2027))), (2, .int (nI ((pr * sq) % 2027))), (0, .int (nI b)), (1, .int (nI e0))]) hx hb dX2_power_40 hl (k := 2) rfl (nI_1 _) (by decide) rfl (fun ls hl => ?_)
      refine lv_goto (tgt := 7) hx hb dX2_power_43 (by decide) ?_
      exact ih7 _ (i + 1, ((sq * sq) % 2027), ((pr * sq) % 2027)) _ (by omega) ⟨rfl, ⟨by omega, by omega, by rw [hI.2.2.1]; exact pw_sq b i, by rw [hI.2.2.1, hI.2.2.2.1]; exact pw_1 hbit, by exact Nat.mod_lt _ (by decide), by exact Nat.mod_lt _ (by decide)⟩, (lv_sub hl [0, 1, 2, 3, 4] rfl)⟩

set_option maxHeartbeats 4000000 in
set_option maxRecDepth 100000 in
/-- Numbers.mixed -/
theorem kX2_mixed (l : Launch) {h x : Int32} : Met l yX2_mixed wsX2_mixed ({ frames := 0, cells := 0, slots := 0, locals := 0 }) (va_Pc [.int h, .int x] (fun _ => True)) (vp_Si (fun r => r = mxI h x)) 0 0 (fun _ => False) := by
  refine Met.ofW (cc := cX2_mixed) (maxL := 3) (ret := (some .int)) (by decide +kernel) rfl ?_
  intro p e s m args below meth c s₁ B hml hv
  obtain ⟨rfl, -⟩ := hv
  have hx := B.exec
  have hb := B.bytes
  have hr := B.returns
  have hts := atoms_spec (ws := wsX2_mixed) B.pre
  have hown : s.vm.findClass RX2 = some m.cls := findClass_of_methodNamed B.named
  have hlocks := B.notSynchronized
  have hc15 : (Cond.constant RX2 15 (-1640531535)).before #[.int h, .int x] s = true := hts _ (by decide +kernel)
  have hl := lv_entry ([.int h, .int x]) (n := 3) (Nat.le_of_ble_eq_true rfl)
  rw [lg_entry_eq]
  generalize (lg_sl ([.int h, .int x]) ++ List.replicate (3 - (lg_sl ([.int h, .int x])).length) Slot.unset).toArray = ls at hl ⊢
  have hl : lv_has ls 3 [(0, .int h), (1, .int x)] := hl
  refine lv_iload_n hx hb dX2_mixed_0 rfl (lv_at hl 0 rfl) ?_
  refine lv_iload_n hx hb dX2_mixed_1 rfl (lv_at hl 1 rfl) ?_
  refine lv_ixor hx hb dX2_mixed_2 ?_
  refine lv_ldc hx hb hown hc15 dX2_mixed_3 ?_
  refine lv_imul hx hb dX2_mixed_5 ?_
  refine lv_istore_n (lv' := [(2, .int ((h ^^^ x) * (-1640531535))), (0, .int h), (1, .int x)]) hx hb dX2_mixed_6 rfl hl (by decide) rfl (fun ls hl => ?_)
  refine lv_iload_n hx hb dX2_mixed_7 rfl (lv_at hl 0 rfl) ?_
  refine lv_iload_n hx hb dX2_mixed_8 rfl (lv_at hl 0 rfl) ?_
  refine lv_bipush (v := (nI 15)) hx hb dX2_mixed_9 (by decide) ?_
  refine lv_iushr (v := uS ((h ^^^ x) * (-1640531535)) (nI 15)) hx hb dX2_mixed_11 rfl ?_
  refine lv_ixor hx hb dX2_mixed_12 ?_
  exact W.iret (v := (((h ^^^ x) * (-1640531535)) ^^^ (uS ((h ^^^ x) * (-1640531535)) (nI 15)))) hx hb hr (fun t ht hW => ⟨(((h ^^^ x) * (-1640531535)) ^^^ (uS ((h ^^^ x) * (-1640531535)) (nI 15))), rfl, rfl, ht⟩) (fun q h => nomatch h) dX2_mixed_13

set_option maxHeartbeats 4000000 in
set_option maxRecDepth 100000 in
/-- Numbers.rest -/
theorem kX2_rest (l : Launch) {h : Int32} : Met l yX2_rest wsX2_rest ({ frames := 0, cells := 0, slots := 0, locals := 0 }) (va_Pc [.int h] (fun _ => True)) (vp_Si (fun r => r = nI (rsN h 1013))) 0 0 (fun _ => False) := by
  refine Met.ofW (cc := cX2_rest) (maxL := 1) (ret := (some .int)) (by decide +kernel) rfl ?_
  intro p e s m args below meth c s₁ B hml hv
  obtain ⟨rfl, -⟩ := hv
  have hx := B.exec
  have hb := B.bytes
  have hr := B.returns
  have hts := atoms_spec (ws := wsX2_rest) B.pre
  have hown : s.vm.findClass RX2 = some m.cls := findClass_of_methodNamed B.named
  have hlocks := B.notSynchronized
  have hl := lv_entry ([.int h]) (n := 1) (Nat.le_of_ble_eq_true rfl)
  rw [lg_entry_eq]
  generalize (lg_sl ([.int h]) ++ List.replicate (1 - (lg_sl ([.int h])).length) Slot.unset).toArray = ls at hl ⊢
  have hl : lv_has ls 1 [(0, .int h)] := hl
  refine lv_iload_n hx hb dX2_rest_0 rfl (lv_at hl 0 rfl) ?_
  refine lv_iconst (v := (nI 1)) hx hb dX2_rest_1 (by decide) ?_
  refine lv_iushr (v := uS h (nI 1)) hx hb dX2_rest_2 rfl ?_
  refine wr_top (y := (nI (h.toBitVec.toNat / 2))) (uS1 h) ?_
  refine lv_sipush (v := (nI 1013)) hx hb dX2_rest_3 (by decide) ?_
  refine lv_irem hx hb dX2_rest_6 (by decide) ?_
  refine wr_top (y := (nI (rsN h 1013))) (rs_rem h (by decide) (by decide)) ?_
  exact W.iret (v := (nI (rsN h 1013))) hx hb hr (fun t ht hW => ⟨(nI (rsN h 1013)), rfl, rfl, ht⟩) (fun q h => nomatch h) dX2_rest_7

set_option maxHeartbeats 4000000 in
set_option maxRecDepth 100000 in
/-- Numbers.isExponent -/
theorem kX2_isExponent (l : Launch) {x : Int32} : Met l yX2_isExponent wsX2_isExponent ({ frames := 0, cells := 0, slots := 0, locals := 0 }) (va_Pc [.int x] (fun _ => True)) (vp_Si (fun r => bP (isE x) r)) 0 0 (fun _ => False) := by
  refine Met.ofW (cc := cX2_isExponent) (maxL := 1) (ret := (some .boolean)) (by decide +kernel) rfl ?_
  intro p e s m args below meth c s₁ B hml hv
  obtain ⟨rfl, -⟩ := hv
  have hx := B.exec
  have hb := B.bytes
  have hr := B.returns
  have hts := atoms_spec (ws := wsX2_isExponent) B.pre
  have hown : s.vm.findClass RX2 = some m.cls := findClass_of_methodNamed B.named
  have hlocks := B.notSynchronized
  have hl := lv_entry ([.int x]) (n := 1) (Nat.le_of_ble_eq_true rfl)
  rw [lg_entry_eq]
  generalize (lg_sl ([.int x]) ++ List.replicate (1 - (lg_sl ([.int x])).length) Slot.unset).toArray = ls at hl ⊢
  have hl : lv_has ls 1 [(0, .int x)] := hl
  refine lv_iload_n hx hb dX2_isExponent_0 rfl (lv_at hl 0 rfl) ?_
  refine lv_if_lt (tgt := 15) hx hb dX2_isExponent_1 (by decide) (fun c_1 => ?_) (fun c_1 => ?_)
  · have c_1 := (o_lt0 _).mp c_1
    refine lv_iconst (v := (nI 0)) hx hb dX2_isExponent_15 (by decide) ?_
    exact W.zret (v := (nI 0)) hx hb hr rfl (fun t ht hW => ⟨(nI 0), rfl, (bP_0 (by rintro ⟨h1, h2⟩; omega)), ht⟩) (fun q h => nomatch h) dX2_isExponent_16
  · have c_1 := mt (o_lt0 _).mpr c_1
    refine lv_iload_n hx hb dX2_isExponent_4 rfl (lv_at hl 0 rfl) ?_
    refine lv_sipush (v := (nI 1013)) hx hb dX2_isExponent_5 (by decide) ?_
    refine lv_icmp_ge (tgt := 15) hx hb dX2_isExponent_8 (by decide) (fun c_8 => ?_) (fun c_8 => ?_)
    · have c_8 := (o_le (by omega) _).mp c_8
      refine lv_iconst (v := (nI 0)) hx hb dX2_isExponent_15 (by decide) ?_
      exact W.zret (v := (nI 0)) hx hb hr rfl (fun t ht hW => ⟨(nI 0), rfl, (bP_0 (by rintro ⟨h1, h2⟩; omega)), ht⟩) (fun q h => nomatch h) dX2_isExponent_16
    · have c_8 := mt (o_le (by omega) _).mpr c_8
      refine lv_iconst (v := (nI 1)) hx hb dX2_isExponent_11 (by decide) ?_
      refine lv_goto (tgt := 16) hx hb dX2_isExponent_12 (by decide) ?_
      exact W.zret (v := (nI 1)) hx hb hr rfl (fun t ht hW => ⟨(nI 1), rfl, (bP_1 (by constructor <;> omega)), ht⟩) (fun q h => nomatch h) dX2_isExponent_16

set_option maxHeartbeats 4000000 in
set_option maxRecDepth 100000 in
/-- Numbers.isSecret -/
theorem kX2_isSecret (l : Launch) {x : Int32} : Met l yX2_isSecret wsX2_isSecret ({ frames := 0, cells := 0, slots := 0, locals := 0 }) (va_Pc [.int x] (fun _ => True)) (vp_Si (fun r => bP (0 < x.toInt ∧ x.toInt < 1013) r)) 0 0 (fun _ => False) := by
  refine Met.ofW (cc := cX2_isSecret) (maxL := 1) (ret := (some .boolean)) (by decide +kernel) rfl ?_
  intro p e s m args below meth c s₁ B hml hv
  obtain ⟨rfl, -⟩ := hv
  have hx := B.exec
  have hb := B.bytes
  have hr := B.returns
  have hts := atoms_spec (ws := wsX2_isSecret) B.pre
  have hown : s.vm.findClass RX2 = some m.cls := findClass_of_methodNamed B.named
  have hlocks := B.notSynchronized
  have hl := lv_entry ([.int x]) (n := 1) (Nat.le_of_ble_eq_true rfl)
  rw [lg_entry_eq]
  generalize (lg_sl ([.int x]) ++ List.replicate (1 - (lg_sl ([.int x])).length) Slot.unset).toArray = ls at hl ⊢
  have hl : lv_has ls 1 [(0, .int x)] := hl
  refine lv_iload_n hx hb dX2_isSecret_0 rfl (lv_at hl 0 rfl) ?_
  refine lv_if_le (tgt := 15) hx hb dX2_isSecret_1 (by decide) (fun c_1 => ?_) (fun c_1 => ?_)
  · have c_1 := (o_le0 _).mp c_1
    refine lv_iconst (v := (nI 0)) hx hb dX2_isSecret_15 (by decide) ?_
    exact W.zret (v := (nI 0)) hx hb hr rfl (fun t ht hW => ⟨(nI 0), rfl, (bP_0 (by rintro ⟨h1, h2⟩; omega)), ht⟩) (fun q h => nomatch h) dX2_isSecret_16
  · have c_1 := mt (o_le0 _).mpr c_1
    refine lv_iload_n hx hb dX2_isSecret_4 rfl (lv_at hl 0 rfl) ?_
    refine lv_sipush (v := (nI 1013)) hx hb dX2_isSecret_5 (by decide) ?_
    refine lv_icmp_ge (tgt := 15) hx hb dX2_isSecret_8 (by decide) (fun c_8 => ?_) (fun c_8 => ?_)
    · have c_8 := (o_le (by omega) _).mp c_8
      refine lv_iconst (v := (nI 0)) hx hb dX2_isSecret_15 (by decide) ?_
      exact W.zret (v := (nI 0)) hx hb hr rfl (fun t ht hW => ⟨(nI 0), rfl, (bP_0 (by rintro ⟨h1, h2⟩; omega)), ht⟩) (fun q h => nomatch h) dX2_isSecret_16
    · have c_8 := mt (o_le (by omega) _).mpr c_8
      refine lv_iconst (v := (nI 1)) hx hb dX2_isSecret_11 (by decide) ?_
      refine lv_goto (tgt := 16) hx hb dX2_isSecret_12 (by decide) ?_
      exact W.zret (v := (nI 1)) hx hb hr rfl (fun t ht hW => ⟨(nI 1), rfl, (bP_1 (by constructor <;> omega)), ht⟩) (fun q h => nomatch h) dX2_isSecret_16

set_option maxHeartbeats 4000000 in
set_option maxRecDepth 100000 in
/-- Numbers.isElementButOne -/
theorem kX2_isElementButOne (l : Launch) {x : Int32} : Met l yX2_isElementButOne wsX2_isElementButOne ({ frames := 1, cells := 0, slots := 0, locals := 24 }) (va_Pc [.int x] (fun _ => True)) (vp_Si (fun r => bP (eltN (vN x) = true) r)) 0 0 (fun _ => False) := by
  refine Met.ofW (cc := cX2_isElementButOne) (maxL := 1) (ret := (some .boolean)) (by decide +kernel) rfl ?_
  intro p e s m args below meth c s₁ B hml hv
  obtain ⟨rfl, -⟩ := hv
  have hx := B.exec
  have hb := B.bytes
  have hr := B.returns
  have hts := atoms_spec (ws := wsX2_isElementButOne) B.pre
  have hown : s.vm.findClass RX2 = some m.cls := findClass_of_methodNamed B.named
  have hlocks := B.notSynchronized
  have hl := lv_entry ([.int x]) (n := 1) (Nat.le_of_ble_eq_true rfl)
  rw [lg_entry_eq]
  generalize (lg_sl ([.int x]) ++ List.replicate (1 - (lg_sl ([.int x])).length) Slot.unset).toArray = ls at hl ⊢
  have hl : lv_has ls 1 [(0, .int x)] := hl
  refine lv_iload_n hx hb dX2_isElementButOne_0 rfl (lv_at hl 0 rfl) ?_
  refine lv_iconst (v := (nI 1)) hx hb dX2_isElementButOne_1 (by decide) ?_
  refine lv_icmp_le (tgt := 27) hx hb dX2_isElementButOne_2 (by decide) (fun c_2 => ?_) (fun c_2 => ?_)
  · have c_2 := (o_ge (by omega) _).mp c_2
    refine lv_iconst (v := (nI 0)) hx hb dX2_isElementButOne_27 (by decide) ?_
    exact W.zret (v := (nI 0)) hx hb hr rfl (fun t ht hW => ⟨(nI 0), rfl, (bP_0 (fun h => by have h1 := elt_lt h; rw [vN_toInt] at h1; omega)), ht⟩) (fun q h => nomatch h) dX2_isElementButOne_28
  · have c_2 := mt (o_ge (by omega) _).mpr c_2
    refine lv_iload_n hx hb dX2_isElementButOne_5 rfl (lv_at hl 0 rfl) ?_
    refine lv_sipush (v := (nI 2027)) hx hb dX2_isElementButOne_6 (by decide) ?_
    refine lv_icmp_ge (tgt := 27) hx hb dX2_isElementButOne_9 (by decide) (fun c_9 => ?_) (fun c_9 => ?_)
    · have c_9 := (o_le (by omega) _).mp c_9
      refine lv_iconst (v := (nI 0)) hx hb dX2_isElementButOne_27 (by decide) ?_
      exact W.zret (v := (nI 0)) hx hb hr rfl (fun t ht hW => ⟨(nI 0), rfl, (bP_0 (fun h => by have h1 := elt_lt h; rw [vN_toInt] at h1; omega)), ht⟩) (fun q h => nomatch h) dX2_isElementButOne_28
    · have c_9 := mt (o_le (by omega) _).mpr c_9
      refine lv_iload_n hx hb dX2_isElementButOne_12 rfl (lv_at hl 0 rfl) ?_
      refine wr_top (y := (nI (vN x))) (x_vN (by omega)) ?_
      refine lv_sipush (v := (nI 1013)) hx hb dX2_isElementButOne_13 (by decide) ?_
      refine vp_callSi (W.runS (As := [.int (nI (vN x)), .int (nI 1013)]) (rest := []) ⟨hx, hb, hml, hown, hts⟩ (kX2_power l (b := vN x) (e0 := 1013) (by rw [vN_toInt]; omega) (by decide)) (va_cwS 2 hts gX2_isElementButOne_X2_power rfl rfl rfl (by decide +kernel) ⟨Nat.le_of_ble_eq_true rfl, Nat.le_of_ble_eq_true rfl⟩) pu_ps rfl rfl hl.1 rfl (lv_room (Nat.le_of_ble_eq_true rfl)) dX2_isElementButOne_16 ⟨Nat.le_of_ble_eq_true rfl, Nat.le_of_ble_eq_true rfl⟩) (fun r_16 hr_16 => ?_)
      subst hr_16
      refine lv_iconst (v := (nI 1)) hx hb dX2_isElementButOne_19 (by decide) ?_
      refine lv_icmp_ne (tgt := 27) hx hb dX2_isElementButOne_20 (by decide) (fun c_20 => ?_) (fun c_20 => ?_)
      · have hm : vN x ^ 1013 % 2027 < 2 ^ 31 := Nat.lt_of_lt_of_le (Nat.mod_lt _ (by decide)) (by decide)
        have c_20 := mt (nI_eq hm (by decide)).mpr c_20
        refine lv_iconst (v := (nI 0)) hx hb dX2_isElementButOne_27 (by decide) ?_
        exact W.zret (v := (nI 0)) hx hb hr rfl (fun t ht hW => ⟨(nI 0), rfl, (bP_0 (fun h => c_20 (elt_lt h).2.2)), ht⟩) (fun q h => nomatch h) dX2_isElementButOne_28
      · have hm : vN x ^ 1013 % 2027 < 2 ^ 31 := Nat.lt_of_lt_of_le (Nat.mod_lt _ (by decide)) (by decide)
        have c_20 := (nI_eq hm (by decide)).mp c_20
        refine lv_iconst (v := (nI 1)) hx hb dX2_isElementButOne_23 (by decide) ?_
        refine lv_goto (tgt := 28) hx hb dX2_isElementButOne_24 (by decide) ?_
        exact W.zret (v := (nI 1)) hx hb hr rfl (fun t ht hW => ⟨(nI 1), rfl, (bP_1 (elt_of (by rw [vN_toInt]; omega) (by rw [vN_toInt]; omega) c_20)), ht⟩) (fun q h => nomatch h) dX2_isElementButOne_28

set_option maxHeartbeats 4000000 in
set_option maxRecDepth 100000 in
/-- Numbers.topicBase -/
theorem kX2_topicBase (l : Launch) {v : Int32} : Met l yX2_topicBase wsX2_topicBase ({ frames := 2, cells := 0, slots := 0, locals := 44 }) (va_Pc [.int v] (fun _ => True)) (vp_Si (fun r => r = nI (tB v))) 0 0 (fun _ => False) := by
  refine Met.ofW (cc := cX2_topicBase) (maxL := 4) (ret := (some .int)) (by decide +kernel) rfl ?_
  intro p e s m args below meth c s₁ B hml hv
  obtain ⟨rfl, -⟩ := hv
  have hx := B.exec
  have hb := B.bytes
  have hr := B.returns
  have hts := atoms_spec (ws := wsX2_topicBase) B.pre
  have hown : s.vm.findClass RX2 = some m.cls := findClass_of_methodNamed B.named
  have hlocks := B.notSynchronized
  have hl := lv_entry ([.int v]) (n := 4) (Nat.le_of_ble_eq_true rfl)
  rw [lg_entry_eq]
  generalize (lg_sl ([.int v]) ++ List.replicate (4 - (lg_sl ([.int v])).length) Slot.unset).toArray = ls at hl ⊢
  have hl : lv_has ls 4 [(0, .int v)] := hl
  refine lv_bipush (v := (nI 17)) hx hb dX2_topicBase_0 (by decide) ?_
  refine lv_iload_n hx hb dX2_topicBase_2 rfl (lv_at hl 0 rfl) ?_
  refine vp_callSi (W.runS (As := [.int (nI 17), .int v]) (rest := []) ⟨hx, hb, hml, hown, hts⟩ (kX2_mixed l) (va_cwS 2 hts gX2_topicBase_X2_mixed rfl rfl rfl (by decide +kernel) ⟨Nat.le_of_ble_eq_true rfl, Nat.le_of_ble_eq_true rfl⟩) pu_ps rfl rfl hl.1 rfl (lv_room (Nat.le_of_ble_eq_true rfl)) dX2_topicBase_3 ⟨Nat.le_of_ble_eq_true rfl, Nat.le_of_ble_eq_true rfl⟩) (fun r_3 hr_3 => ?_)
  subst hr_3
  refine lv_istore_n (lv' := [(1, .int (mxI (nI 17) v)), (0, .int v)]) hx hb dX2_topicBase_6 rfl hl (by decide) rfl (fun ls hl => ?_)
  refine lv_iconst (v := (nI 0)) hx hb dX2_topicBase_7 (by decide) ?_
  refine lv_istore_n (lv' := [(2, .int (nI 0)), (1, .int (mxI (nI 17) v)), (0, .int v)]) hx hb dX2_topicBase_8 rfl hl (by decide) rfl (fun ls hl => ?_)
  refine wloopR (fun kq (xq : Nat) ls => match xq with | i => kq = 64 - i ∧ (i ≤ 64 ∧ tB v = tbG v (64 - i)) ∧ lv_has ls 4 [(2, .int (nI i)), (1, .int (mxI (nI 17) v)), (0, .int v)]) (fun k9 x9 ls h9 ih9 => ?_) _ 0 ls ⟨rfl, ⟨by decide, rfl⟩, lv_sub hl [0, 1, 2] rfl⟩
  obtain ⟨i, rfl⟩ : ∃ z, z = x9 := ⟨_, rfl⟩
  obtain ⟨hk9, hI, hl⟩ := h9
  refine lv_iload_n hx hb dX2_topicBase_9 rfl (lv_at hl 0 rfl) ?_
  refine lv_bipush (v := (nI 64)) hx hb dX2_topicBase_10 (by decide) ?_
  refine lv_icmp_ge (tgt := 42) hx hb dX2_topicBase_12 (by decide) (fun c_12 => ?_) (fun c_12 => ?_)
  · have c_12 := (nI_leI (by omega) (by omega)).mp c_12
    refine lv_iconst (v := (nI 4)) hx hb dX2_topicBase_42 (by decide) ?_
    exact W.iret (v := (nI 4)) hx hb hr (fun t ht hW => ⟨(nI 4), rfl, by rw [hI.2, show 64 - i = 0 by omega]; rfl, ht⟩) (fun q h => nomatch h) dX2_topicBase_43
  · have c_12 := mt (nI_leI (by omega) (by omega)).mpr c_12
    refine lv_iload_n hx hb dX2_topicBase_15 rfl (lv_at hl 1 rfl) ?_
    refine lv_iload_n hx hb dX2_topicBase_16 rfl (lv_at hl 0 rfl) ?_
    refine vp_callSi (W.runS (As := [.int (mxI (nI 17) v), .int (nI i)]) (rest := []) ⟨hx, hb, hml, hown, hts⟩ (kX2_mixed l) (va_cwS 2 hts gX2_topicBase_X2_mixed rfl rfl rfl (by decide +kernel) ⟨Nat.le_of_ble_eq_true rfl, Nat.le_of_ble_eq_true rfl⟩) pu_ps rfl rfl hl.1 rfl (lv_room (Nat.le_of_ble_eq_true rfl)) dX2_topicBase_17 ⟨Nat.le_of_ble_eq_true rfl, Nat.le_of_ble_eq_true rfl⟩) (fun r_17 hr_17 => ?_)
    subst hr_17
    refine lv_iconst (v := (nI 1)) hx hb dX2_topicBase_20 (by decide) ?_
    refine lv_iushr (v := uS (mxI (mxI (nI 17) v) (nI i)) (nI 1)) hx hb dX2_topicBase_21 rfl ?_
    refine wr_top (y := (nI ((mxI (mxI (nI 17) v) (nI i)).toBitVec.toNat / 2))) (uS1 _) ?_
    refine lv_sipush (v := (nI 2027)) hx hb dX2_topicBase_22 (by decide) ?_
    refine lv_irem hx hb dX2_topicBase_25 (by decide) ?_
    refine wr_top (y := (nI (tbm v i))) (rs_rem _ (by decide) (by decide)) ?_
    refine lv_istore_n (lv' := [(3, .int (nI (tbm v i))), (2, .int (nI i)), (1, .int (mxI (nI 17) v)), (0, .int v)]) hx hb dX2_topicBase_26 rfl hl (by decide) rfl (fun ls hl => ?_)
    refine lv_iload_n hx hb dX2_topicBase_27 rfl (lv_at hl 0 rfl) ?_
    refine vp_callSi (W.runS (As := [.int (nI (tbm v i))]) (rest := []) ⟨hx, hb, hml, hown, hts⟩ (kX2_isElementButOne l) (va_cwS 1 hts gX2_topicBase_X2_isElementButOne rfl rfl rfl (by decide +kernel) ⟨Nat.le_of_ble_eq_true rfl, Nat.le_of_ble_eq_true rfl⟩) pu_ps rfl rfl hl.1 rfl (lv_room (Nat.le_of_ble_eq_true rfl)) dX2_topicBase_28 ⟨Nat.le_of_ble_eq_true rfl, Nat.le_of_ble_eq_true rfl⟩) (fun r_28 hr_28 => ?_)
    have htb : tbm v i < 2027 := rs_lt _ (by decide)
    rw [vN_nI (show tbm v i < 2 ^ 31 by omega)] at hr_28
    rcases hr_28 with ⟨hq_28, rfl⟩ | ⟨hq_28, rfl⟩
    · refine lv_if_eq (tgt := 36) hx hb dX2_topicBase_31 (by decide) (fun c_31 => ?_) (fun c_31 => ?_)
      · exact absurd c_31 (by decide)
      · have c_31 := mt (o_eq0 _).mpr c_31
        refine lv_iload_n hx hb dX2_topicBase_34 rfl (lv_at hl 0 rfl) ?_
        exact W.iret (v := (nI (tbm v i))) hx hb hr (fun t ht hW => ⟨(nI (tbm v i)), rfl, by rw [hI.2, tbG_hit (by omega) hq_28], ht⟩) (fun q h => nomatch h) dX2_topicBase_35
    · refine lv_if_eq (tgt := 36) hx hb dX2_topicBase_31 (by decide) (fun c_31 => ?_) (fun c_31 => ?_)
      · have c_31 := (o_eq0 _).mp c_31
        refine lv_iinc (v := (nI (i + 1))) (lv' := [(2, .int (nI (i + 1))), (3, .int (nI (tbm v i))), (1, .int (mxI (nI 17) v)), (0, .int v)]) hx hb dX2_topicBase_36 hl (k := 1) rfl (nI_1 _) (by decide) rfl (fun ls hl => ?_)
        refine lv_goto (tgt := 9) hx hb dX2_topicBase_39 (by decide) ?_
        exact ih9 _ (i + 1) _ (by omega) ⟨rfl, ⟨by omega, by rw [hI.2]; exact tbG_miss (by omega) hq_28⟩, (lv_sub hl [0, 2, 3] rfl)⟩
      · exact absurd c_31 (by decide)

set_option maxHeartbeats 4000000 in
set_option maxRecDepth 100000 in
/-- Numbers.isAmongFirst -/
theorem kX2_isAmongFirst (l : Launch) {D : va_G} {cy ad : Nat → Nat} {n : Nat} {M : Mm} {ex : va_W} {a0 N0 k0 : Nat} {x0 : Int32} (hk0 : k0 < n) (hg0 : ∀ row, gE cy ad k0 row = eInt (cy 0) N0 row) (ha0 : a0 ≤ N0) (hN0 : N0 < 2 ^ 31) : Met l yX2_isAmongFirst wsX2_isAmongFirst ({ frames := 0, cells := 0, slots := 0, locals := 0 }) (va_Pc [.int (nI a0), .ref (ad k0), .int x0] (RO D cy (wd cy ad n M ++ ex))) (vp_Si (fun r => bP (∃ j, j < a0 ∧ M k0 j = x0) r)) 0 0 (fun _ => False) := by
  refine Met.ofW (cc := cX2_isAmongFirst) (maxL := 4) (ret := (some .boolean)) (by decide +kernel) rfl ?_
  intro p e s m args below meth c s₁ B hml hv
  obtain ⟨rfl, hP, hE⟩ := hv
  have hx := B.exec
  have hb := B.bytes
  have hr := B.returns
  have hts := atoms_spec (ws := wsX2_isAmongFirst) B.pre
  have hown : s.vm.findClass RX2 = some m.cls := findClass_of_methodNamed B.named
  have hlocks := B.notSynchronized
  have hl := lv_entry ([.int (nI a0), .ref (ad k0), .int x0]) (n := 4) (Nat.le_of_ble_eq_true rfl)
  rw [lg_entry_eq]
  generalize (lg_sl ([.int (nI a0), .ref (ad k0), .int x0]) ++ List.replicate (4 - (lg_sl ([.int (nI a0), .ref (ad k0), .int x0])).length) Slot.unset).toArray = ls at hl ⊢
  have hl : lv_has ls 4 [(0, .int (nI a0)), (1, .ref (ad k0)), (2, .int x0)] := hl
  refine lv_iconst (v := (nI 0)) hx hb dX2_isAmongFirst_0 (by decide) ?_
  refine lv_istore_n (lv' := [(3, .int (nI 0)), (0, .int (nI a0)), (1, .ref (ad k0)), (2, .int x0)]) hx hb dX2_isAmongFirst_1 rfl hl (by decide) rfl (fun ls hl => ?_)
  refine wloopR (fun kq (xq : Nat) ls => match xq with | i => kq = a0 - i ∧ (i ≤ a0 ∧ ∀ j, j < i → M k0 j ≠ x0) ∧ lv_has ls 4 [(3, .int (nI i)), (0, .int (nI a0)), (1, .ref (ad k0)), (2, .int x0)]) (fun k2 x2 ls h2 ih2 => ?_) _ 0 ls ⟨rfl, ⟨Nat.zero_le _, fun j h => absurd h (Nat.not_lt_zero j)⟩, lv_sub hl [0, 1, 2, 3] rfl⟩
  obtain ⟨i, rfl⟩ : ∃ z, z = x2 := ⟨_, rfl⟩
  obtain ⟨hk2, hI, hl⟩ := h2
  refine lv_iload_n hx hb dX2_isAmongFirst_2 rfl (lv_at hl 0 rfl) ?_
  refine lv_iload_n hx hb dX2_isAmongFirst_3 rfl (lv_at hl 1 rfl) ?_
  refine lv_icmp_ge (tgt := 28) hx hb dX2_isAmongFirst_4 (by decide) (fun c_4 => ?_) (fun c_4 => ?_)
  · have c_4 := (nI_leI (by omega) (by omega)).mp c_4
    refine lv_iconst (v := (nI 0)) hx hb dX2_isAmongFirst_28 (by decide) ?_
    exact W.zret (v := (nI 0)) hx hb hr rfl (fun t ht hW => ⟨(nI 0), rfl, (bP_0 (fun h => by obtain ⟨j, hj, e9⟩ := h; exact hI.2 j (by omega) e9)), ht⟩) (fun q h => nomatch h) dX2_isAmongFirst_29
  · have c_4 := mt (nI_leI (by omega) (by omega)).mpr c_4
    refine lv_iload_n hx hb dX2_isAmongFirst_7 rfl (lv_at hl 0 rfl) ?_
    refine lv_aload_n hx hb dX2_isAmongFirst_8 rfl (lv_at hl 2 rfl) ?_
    refine va_alen (D := D) (cl := vwCl) hx hb hE.1 hP k0 0 (wd_at (M := M) hk0 (hg0 _)) rfl (v := (nI N0)) rfl dX2_isAmongFirst_9 ?_
    refine lv_icmp_ge (tgt := 28) hx hb dX2_isAmongFirst_10 (by decide) (fun c_10 => ?_) (fun c_10 => ?_)
    · have c_10 := (nI_leI (by omega) (by omega)).mp c_10
      exfalso; omega
    · have c_10 := mt (nI_leI (by omega) (by omega)).mpr c_10
      refine lv_aload_n hx hb dX2_isAmongFirst_13 rfl (lv_at hl 2 rfl) ?_
      refine lv_iload_n hx hb dX2_isAmongFirst_14 rfl (lv_at hl 0 rfl) ?_
      refine wr_ald (cy := cy) (ad := ad) (ex := ex) hx hb hE.1 hP k0 hk0 (hg0 _) i rfl (by omega) hN0 dX2_isAmongFirst_15 ?_
      refine lv_iload_n hx hb dX2_isAmongFirst_16 rfl (lv_at hl 3 rfl) ?_
      refine lv_icmp_ne (tgt := 22) hx hb dX2_isAmongFirst_17 (by decide) (fun c_17 => ?_) (fun c_17 => ?_)
      · refine lv_iinc (v := (nI (i + 1))) (lv' := [(3, .int (nI (i + 1))), (0, .int (nI a0)), (1, .ref (ad k0)), (2, .int x0)]) hx hb dX2_isAmongFirst_22 hl (k := 0) rfl (nI_1 _) (by decide) rfl (fun ls hl => ?_)
        refine lv_goto (tgt := 2) hx hb dX2_isAmongFirst_25 (by decide) ?_
        exact ih2 _ (i + 1) _ (by omega) ⟨rfl, ⟨by omega, fun j hj => by rcases Nat.lt_or_ge j i with h | h <;> first | exact hI.2 j h | (rw [show j = i by omega]; exact c_17)⟩, (lv_sub hl [0, 1, 2, 3] rfl)⟩
      · refine lv_iconst (v := (nI 1)) hx hb dX2_isAmongFirst_20 (by decide) ?_
        exact W.zret (v := (nI 1)) hx hb hr rfl (fun t ht hW => ⟨(nI 1), rfl, (bP_1 ⟨i, by omega, c_17⟩), ht⟩) (fun q h => nomatch h) dX2_isAmongFirst_21
