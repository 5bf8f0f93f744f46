theorem st_st (M : Mm) (k j : Nat) (v w : Int32) : st (st M k j v) k j w = st M k j w := by
  funext a b
  rw [st_at, st_at, st_at]
  by_cases h : a = k ∧ b = j
  · rw [if_pos h, if_pos h]
  · rw [if_neg h, if_neg h, if_neg h]
theorem g_137 (cy ad : Nat → Nat) : ∀ row, gE cy ad 137 row = eMo ad row := fun _ => rfl
theorem g_138 (cy ad : Nat → Nat) : ∀ row, gE cy ad 138 row = eInt (cy 0) 1013 row := fun _ => rfl
theorem g_139 (cy ad : Nat → Nat) : ∀ row, gE cy ad 139 row = eInt (cy 0) 2027 row := fun _ => rfl
theorem g_140 (cy ad : Nat → Nat) : ∀ row, gE cy ad 140 row = eInt (cy 0) 12 row := fun _ => rfl
theorem g_141 (cy ad : Nat → Nat) : ∀ row, gE cy ad 141 row = eInt (cy 0) 8 row := fun _ => rfl
theorem g_142 (cy ad : Nat → Nat) : ∀ row, gE cy ad 142 row = eInt (cy 0) 48 row := fun _ => rfl
theorem g_143 (cy ad : Nat → Nat) : ∀ row, gE cy ad 143 row = eInt (cy 0) 6 row := fun _ => rfl
theorem g_144 (cy ad : Nat → Nat) : ∀ row, gE cy ad 144 row = eInt (cy 0) 6 row := fun _ => rfl
theorem g_145 (cy ad : Nat → Nat) : ∀ row, gE cy ad 145 row = eInt (cy 1) 6 row := fun _ => rfl
theorem g_146 (cy ad : Nat → Nat) : ∀ row, gE cy ad 146 row = eInt (cy 0) 6 row := fun _ => rfl
theorem g_147 (cy ad : Nat → Nat) : ∀ row, gE cy ad 147 row = eInt (cy 0) 48 row := fun _ => rfl
theorem g_148 (cy ad : Nat → Nat) : ∀ row, gE cy ad 148 row = eInt (cy 0) 48 row := fun _ => rfl
theorem g_149 (cy ad : Nat → Nat) : ∀ row, gE cy ad 149 row = eInt (cy 0) 384 row := fun _ => rfl
theorem g_150 (cy ad : Nat → Nat) : ∀ row, gE cy ad 150 row = eInt (cy 0) 8 row := fun _ => rfl
theorem g_151 (cy ad : Nat → Nat) : ∀ row, gE cy ad 151 row = eInt (cy 0) 200 row := fun _ => rfl
theorem g_152 (cy ad : Nat → Nat) : ∀ row, gE cy ad 152 row = eInt (cy 0) 6 row := fun _ => rfl
theorem g_153 (cy ad : Nat → Nat) : ∀ row, gE cy ad 153 row = eInt (cy 0) 8 row := fun _ => rfl

/-- the model's memory but for 'mixed' -/
def mxP (M N : Mm) : Prop := (∀ a, a ≠ 137 → N a = M a) ∧ ∀ c, c ≠ 26 → N 137 c = M 137 c
theorem mx_rf (M : Mm) : mxP M M := ⟨fun _ _ => rfl, fun _ _ => rfl⟩
theorem mx_st (M : Mm) (v : Int32) : mxP M (st M 137 26 v) := ⟨fun a h => st_r _ _ _ h, fun c h => st_c _ _ _ h⟩
theorem mx_tr {M N O : Mm} (h : mxP M N) (h2 : mxP N O) : mxP M O := ⟨fun a ha => (h2.1 a ha).trans (h.1 a ha), fun c hc => (h2.2 c hc).trans (h.2 c hc)⟩
/-- the model's two tables -/
def tbP (M : Mm) : Prop := (∀ a, a < 1013 → M 138 a = nI (4 ^ a % 2027)) ∧ ∀ x, 1 < x → x < 2027 → M 139 x = if eltN x = true then nI (dlg x) else (-1)
theorem tb_mx {M N : Mm} (h : tbP M) (h1 : N 138 = M 138) (h2 : N 139 = M 139) : tbP N := by unfold tbP; rw [h1, h2]; exact h
theorem tb_ex {M : Mm} (h : tbP M) {x : Nat} (hx : eltN x = true) : M 139 x = nI (dlg x) := by
  have h1 := elt_lt hx
  rw [h.2 x h1.1 h1.2.1, if_pos hx]
theorem bo_eq {x z a b : Nat} (hx : eltN x = true) (hz : eltN z = true) : 4 ^ ((dlg x * a + dlg z * b) % 1013) % 2027 = x ^ a * z ^ b % 2027 := by
  have h1 := (g_dl hx).2.2
  have h2 := (g_dl hz).2.2
  rw [g_red, Nat.pow_add, Nat.pow_mul, Nat.pow_mul, Nat.mul_mod, Nat.pow_mod, h1, Nat.pow_mod (4 ^ dlg z), h2, ← Nat.mul_mod]
theorem bo_lt {x z a b : Nat} (hx : eltN x = true) (hz : eltN z = true) (ha : a < 1013) (hb : b < 1013) : dlg x * a + dlg z * b < 2 ^ 31 := by
  have h1 : dlg x * a < 1013 * 1013 := Nat.mul_lt_mul'' (g_dl hx).2.1 ha
  have h2 : dlg z * b < 1013 * 1013 := Nat.mul_lt_mul'' (g_dl hz).2.1 hb
  omega
theorem elt_4 : eltN 4 = true := by decide +kernel

theorem ik_2 {M : Mm} (h : tbP M) {x : Int32} (h1 : 1 < x.toInt) (h2 : x.toInt < 2027) : ¬ M 139 (vN x) ≤ 0 ↔ eltN (vN x) = true := by
  have hv : (vN x : Int) = x.toInt := by rw [vN_toInt]; omega
  rw [h.2 (vN x) (by omega) (by omega)]
  by_cases he : eltN (vN x) = true
  · rw [if_pos he]
    have hd := g_dl he
    refine ⟨fun _ => he, fun _ hle => ?_⟩
    rw [o_le0, nI_toInt (by omega)] at hle
    omega
  · rw [if_neg he]
    exact ⟨fun hc => absurd (by decide : (-1 : Int32) ≤ 0) hc, fun h9 => absurd h9 he⟩

set_option maxHeartbeats 4000000 in
set_option maxRecDepth 100000 in
/-- model thrown -/
theorem kX6_thrown (l : Launch) {D : va_G} {cy ad : Nat → Nat} {n : Nat} {M : Mm} (hn : 154 ≤ n)  : Met l yX6_thrown wsX6_thrown ({ frames := 0, cells := 0, slots := 0, locals := 0 }) (va_Pc [.ref (ad 137)] (RO D cy (wd cy ad n M ++ []))) (vp_Si (fun r => r = M 137 0)) 0 0 (fun _ => False) := by
  refine Met.ofW (cc := cX6_thrown) (maxL := 1) (ret := (some .int)) (by decide +kernel) rfl ?_
  intro p e s m args below meth c s₁ B hml hv
  obtain ⟨rfl, hP, hE⟩ := hv
  have hx := B.exec
  have hb := B.bytes
  have hr := B.returns
  have hts := atoms_spec (ws := wsX6_thrown) B.pre
  have hown : s.vm.findClass RX6 = some m.cls := findClass_of_methodNamed B.named
  have hlocks := B.notSynchronized
  have hf63 : (Cond.fieldLink RX6 63 "RingPetitionModel" "thrown" "I").before #[.ref (ad 137)] s = true := hts _ (by decide +kernel)
  have hin_RX6 : ∀ w ∈ u_ws RX6 TX6 27, w ∈ wsX6_thrown := by decide +kernel
  have hl := lv_entry ([.ref (ad 137)]) (n := 1) (Nat.le_of_ble_eq_true rfl)
  rw [lg_entry_eq]
  generalize (lg_sl ([.ref (ad 137)]) ++ List.replicate (1 - (lg_sl ([.ref (ad 137)])).length) Slot.unset).toArray = ls at hl ⊢
  have hl : lv_has ls 1 [(0, .ref (ad 137))] := hl
  refine lv_aload_n hx hb dX6_thrown_0 rfl (lv_at hl 0 rfl) ?_
  refine va_get (D := D) (ci := 5) (v := .int (M 137 0)) (C := RX6) (T := TX6) (N := 27) hx hb hts hin_RX6 hown hE.1 hP 137 (wd_at (M := M) (show 137 < n by omega) ((g_137 cy ad) _)) rfl 0 (by decide) hf63 (fun _ h9 => h9) rfl dX6_thrown_1 ?_
  exact W.iret (v := (M 137 0)) hx hb hr (fun t ht hW => ⟨(M 137 0), rfl, rfl, ht⟩) (fun q h => nomatch h) dX6_thrown_4

set_option maxHeartbeats 4000000 in
set_option maxRecDepth 100000 in
/-- model isKey -/
theorem kX6_isKey (l : Launch) {D : va_G} {cy ad : Nat → Nat} {n : Nat} {M : Mm} (hn : 154 ≤ n) {x : Int32} (htb : tbP M) : Met l yX6_isKey wsX6_isKey ({ frames := 0, cells := 0, slots := 0, locals := 0 }) (va_Pc [.ref (ad 137), .int x] (RO D cy (wd cy ad n M ++ []))) (vp_Si (fun r => bP (eltN (vN x) = true) r)) 0 0 (fun _ => False) := by
  refine Met.ofW (cc := cX6_isKey) (maxL := 2) (ret := (some .boolean)) (by decide +kernel) rfl ?_
  intro p e s m args below meth c s₁ B hml hv
  obtain ⟨rfl, hP, hE⟩ := hv
  have hx := B.exec
  have hb := B.bytes
  have hr := B.returns
  have hts := atoms_spec (ws := wsX6_isKey) B.pre
  have hown : s.vm.findClass RX6 = some m.cls := findClass_of_methodNamed B.named
  have hlocks := B.notSynchronized
  have hf13 : (Cond.fieldLink RX6 13 "RingPetitionModel" "exponent" "[I").before #[.ref (ad 137), .int x] s = true := hts _ (by decide +kernel)
  have hin_RX6 : ∀ w ∈ u_ws RX6 TX6 27, w ∈ wsX6_isKey := by decide +kernel
  have hl := lv_entry ([.ref (ad 137), .int x]) (n := 2) (Nat.le_of_ble_eq_true rfl)
  rw [lg_entry_eq]
  generalize (lg_sl ([.ref (ad 137), .int x]) ++ List.replicate (2 - (lg_sl ([.ref (ad 137), .int x])).length) Slot.unset).toArray = ls at hl ⊢
  have hl : lv_has ls 2 [(0, .ref (ad 137)), (1, .int x)] := hl
  refine lv_iload_n hx hb dX6_isKey_0 rfl (lv_at hl 1 rfl) ?_
  refine lv_iconst (v := (nI 1)) hx hb dX6_isKey_1 (by decide) ?_
  refine lv_icmp_le (tgt := 25) hx hb dX6_isKey_2 (by decide) (fun c_2 => ?_) (fun c_2 => ?_)
  · have c_2 := (o_ge (by omega) _).mp c_2
    refine lv_iconst (v := (nI 0)) hx hb dX6_isKey_25 (by decide) ?_
    exact W.zret (v := (nI 0)) hx hb hr rfl (fun t ht hW => ⟨(nI 0), rfl, (bP_0 (fun h => by have h1 := elt_lt h; rw [vN_toInt] at h1; omega)), ht⟩) (fun q h => nomatch h) dX6_isKey_26
  · have c_2 := mt (o_ge (by omega) _).mpr c_2
    refine lv_iload_n hx hb dX6_isKey_5 rfl (lv_at hl 1 rfl) ?_
    refine lv_sipush (v := (nI 2027)) hx hb dX6_isKey_6 (by decide) ?_
    refine lv_icmp_ge (tgt := 25) hx hb dX6_isKey_9 (by decide) (fun c_9 => ?_) (fun c_9 => ?_)
    · have c_9 := (o_le (by omega) _).mp c_9
      refine lv_iconst (v := (nI 0)) hx hb dX6_isKey_25 (by decide) ?_
      exact W.zret (v := (nI 0)) hx hb hr rfl (fun t ht hW => ⟨(nI 0), rfl, (bP_0 (fun h => by have h1 := elt_lt h; rw [vN_toInt] at h1; omega)), ht⟩) (fun q h => nomatch h) dX6_isKey_26
    · have c_9 := mt (o_le (by omega) _).mpr c_9
      refine lv_aload_n hx hb dX6_isKey_12 rfl (lv_at hl 0 rfl) ?_
      refine va_get (D := D) (ci := 5) (v := .ref (ad 139)) (C := RX6) (T := TX6) (N := 27) hx hb hts hin_RX6 hown hE.1 hP 137 (wd_at (M := M) (show 137 < n by omega) ((g_137 cy ad) _)) rfl 2 (by decide) hf13 (fun _ h9 => h9) rfl dX6_isKey_13 ?_
      refine lv_iload_n hx hb dX6_isKey_16 rfl (lv_at hl 1 rfl) ?_
      refine wr_ald (cy := cy) (ad := ad) (ex := []) hx hb hE.1 hP 139 (show 139 < n by omega) ((g_139 cy ad) _) (vN x) (x_vN (by omega)) (by rw [vN_toInt]; omega) (by decide) dX6_isKey_17 ?_
      refine lv_if_le (tgt := 25) hx hb dX6_isKey_18 (by decide) (fun c_18 => ?_) (fun c_18 => ?_)
      · refine lv_iconst (v := (nI 0)) hx hb dX6_isKey_25 (by decide) ?_
        exact W.zret (v := (nI 0)) hx hb hr rfl (fun t ht hW => ⟨(nI 0), rfl, (bP_0 (fun h => (ik_2 htb (by omega) (by omega)).mpr h c_18)), ht⟩) (fun q h => nomatch h) dX6_isKey_26
      · refine lv_iconst (v := (nI 1)) hx hb dX6_isKey_21 (by decide) ?_
        refine lv_goto (tgt := 26) hx hb dX6_isKey_22 (by decide) ?_
        exact W.zret (v := (nI 1)) hx hb hr rfl (fun t ht hW => ⟨(nI 1), rfl, (bP_1 ((ik_2 htb (by omega) (by omega)).mp c_18)), ht⟩) (fun q h => nomatch h) dX6_isKey_26

set_option maxHeartbeats 4000000 in
set_option maxRecDepth 100000 in
/-- model mix -/
theorem kX6_mix (l : Launch) {D : va_G} {cy ad : Nat → Nat} {n : Nat} {M : Mm} {A : Nat → Prop} (hD : ∀ M, va_D A (wd cy ad n M ++ [])) (hn : 154 ≤ n) {w x : Int32} (hw : M 137 26 = w) : Met l yX6_mix wsX6_mix ({ frames := 0, cells := 0, slots := 0, locals := 0 }) (va_Pc [.ref (ad 137), .int x] (RW D cy (wd cy ad n M ++ []) A)) (va_Qv (S := Mm) (fun u => u = st M 137 26 (mxI w x)) (fun u t => va_P D vwCl (wd cy ad n u ++ []) t.heap) A) 0 0 A := by
  refine Met.ofW (cc := cX6_mix) (maxL := 2) (ret := none) (by decide +kernel) rfl ?_
  intro p e s m args below meth c s₁ B hml hv
  obtain ⟨rfl, hP, hE, hA⟩ := hv
  have hx := B.exec
  have hb := B.bytes
  have hr := B.returns
  have hts := atoms_spec (ws := wsX6_mix) B.pre
  have hown : s.vm.findClass RX6 = some m.cls := findClass_of_methodNamed B.named
  have hlocks := B.notSynchronized
  have hc69 : (Cond.constant RX6 69 (-1640531535)).before #[.ref (ad 137), .int x] s = true := hts _ (by decide +kernel)
  have hf66 : (Cond.fieldLink RX6 66 "RingPetitionModel" "mixed" "I").before #[.ref (ad 137), .int x] s = true := hts _ (by decide +kernel)
  have hin_RX6 : ∀ w ∈ u_ws RX6 TX6 27, w ∈ wsX6_mix := by decide +kernel
  have hS : va_S A s.heap s.heap [] := va_S.rf
  have hl := lv_entry ([.ref (ad 137), .int x]) (n := 2) (Nat.le_of_ble_eq_true rfl)
  rw [lg_entry_eq]
  generalize (lg_sl ([.ref (ad 137), .int x]) ++ List.replicate (2 - (lg_sl ([.ref (ad 137), .int x])).length) Slot.unset).toArray = ls at hl ⊢
  have hl : lv_has ls 2 [(0, .ref (ad 137)), (1, .int x)] := hl
  refine lv_aload_n hx hb dX6_mix_0 rfl (lv_at hl 0 rfl) ?_
  refine lv_aload_n hx hb dX6_mix_1 rfl (lv_at hl 0 rfl) ?_
  refine va_get (D := D) (ci := 5) (v := .int (M 137 26)) (C := RX6) (T := TX6) (N := 27) hx hb hts hin_RX6 hown hE.1 hP 137 (wd_at (M := M) (show 137 < n by omega) ((g_137 cy ad) _)) rfl 26 (by decide) hf66 (fun _ h9 => h9) rfl dX6_mix_2 ?_
  refine wr_top (y := w) hw ?_
  refine lv_iload_n hx hb dX6_mix_5 rfl (lv_at hl 1 rfl) ?_
  refine lv_ixor hx hb dX6_mix_6 ?_
  refine lv_ldc hx hb hown hc69 dX6_mix_7 ?_
  refine lv_imul hx hb dX6_mix_9 ?_
  refine wr_put (cy := cy) (ad := ad) (ex := []) (ci := 5) (C := RX6) (T := TX6) (N := 27) (ty := .int) hx hb hts hin_RX6 tyX6 tyX6_ok nmX6 hown hE.1 hP hD hS 137 (show 137 < n by omega) ((g_137 cy ad) _) rfl 26 (by decide) hf66 (fun _ h9 => h9) rfl (by decide +kernel) rfl rfl (by simp) (((g_137 cy ad) _).trans (by simp [st_at])) dX6_mix_10 (fun H locs hP hS => ?_)
  refine lv_aload_n hx hb dX6_mix_13 rfl (lv_at hl 0 rfl) ?_
  refine lv_aload_n hx hb dX6_mix_14 rfl (lv_at hl 0 rfl) ?_
  refine va_get (D := D) (ci := 5) (v := .int ((st M 137 26 ((w ^^^ x) * (-1640531535))) 137 26)) (C := RX6) (T := TX6) (N := 27) hx hb hts hin_RX6 hown hE.1 hP 137 (wd_at (M := (st M 137 26 ((w ^^^ x) * (-1640531535)))) (show 137 < n by omega) ((g_137 cy ad) _)) rfl 26 (by decide) hf66 (fun _ h9 => h9) rfl dX6_mix_15 ?_
  refine wr_top (y := ((w ^^^ x) * (-1640531535))) (st_s _ _ _ _) ?_
  refine lv_aload_n hx hb dX6_mix_18 rfl (lv_at hl 0 rfl) ?_
  refine va_get (D := D) (ci := 5) (v := .int ((st M 137 26 ((w ^^^ x) * (-1640531535))) 137 26)) (C := RX6) (T := TX6) (N := 27) hx hb hts hin_RX6 hown hE.1 hP 137 (wd_at (M := (st M 137 26 ((w ^^^ x) * (-1640531535)))) (show 137 < n by omega) ((g_137 cy ad) _)) rfl 26 (by decide) hf66 (fun _ h9 => h9) rfl dX6_mix_19 ?_
  refine wr_top (y := ((w ^^^ x) * (-1640531535))) (st_s _ _ _ _) ?_
  refine lv_bipush (v := (nI 15)) hx hb dX6_mix_22 (by decide) ?_
  refine lv_iushr (v := uS ((w ^^^ x) * (-1640531535)) (nI 15)) hx hb dX6_mix_24 rfl ?_
  refine lv_ixor hx hb dX6_mix_25 ?_
  refine wr_put (cy := cy) (ad := ad) (ex := []) (ci := 5) (C := RX6) (T := TX6) (N := 27) (ty := .int) hx hb hts hin_RX6 tyX6 tyX6_ok nmX6 hown hE.1 hP hD hS 137 (show 137 < n by omega) ((g_137 cy ad) _) rfl 26 (by decide) hf66 (fun _ h9 => h9) rfl (by decide +kernel) rfl rfl (by simp) (((g_137 cy ad) _).trans (by simp [st_at])) dX6_mix_26 (fun H locs hP hS => ?_)
  rw [st_st] at hP
  exact W.vret hx hb hr (fun t ht hW => ⟨⟨(st M 137 26 (((w ^^^ x) * (-1640531535)) ^^^ (uS ((w ^^^ x) * (-1640531535)) (nI 15)))), rfl, rfl, (by show va_P D vwCl _ t.heap; rw [ht]; exact hP)⟩, hS.F ht⟩) hS.2.2 dX6_mix_29

set_option maxHeartbeats 4000000 in
set_option maxRecDepth 100000 in
/-- model rest -/
theorem kX6_rest (l : Launch) {D : va_G} {cy ad : Nat → Nat} {n : Nat} {M : Mm} (hn : 154 ≤ n) {w : Int32} (hw : M 137 26 = w) : Met l yX6_rest wsX6_rest ({ frames := 0, cells := 0, slots := 0, locals := 0 }) (va_Pc [.ref (ad 137)] (RO D cy (wd cy ad n M ++ []))) (vp_Si (fun r => r = nI (rsN w 1013))) 0 0 (fun _ => False) := by
  refine Met.ofW (cc := cX6_rest) (maxL := 1) (ret := (some .int)) (by decide +kernel) rfl ?_
  intro p e s m args below meth c s₁ B hml hv
  obtain ⟨rfl, hP, hE⟩ := hv
  have hx := B.exec
  have hb := B.bytes
  have hr := B.returns
  have hts := atoms_spec (ws := wsX6_rest) B.pre
  have hown : s.vm.findClass RX6 = some m.cls := findClass_of_methodNamed B.named
  have hlocks := B.notSynchronized
  have hf66 : (Cond.fieldLink RX6 66 "RingPetitionModel" "mixed" "I").before #[.ref (ad 137)] s = true := hts _ (by decide +kernel)
  have hin_RX6 : ∀ w ∈ u_ws RX6 TX6 27, w ∈ wsX6_rest := by decide +kernel
  have hl := lv_entry ([.ref (ad 137)]) (n := 1) (Nat.le_of_ble_eq_true rfl)
  rw [lg_entry_eq]
  generalize (lg_sl ([.ref (ad 137)]) ++ List.replicate (1 - (lg_sl ([.ref (ad 137)])).length) Slot.unset).toArray = ls at hl ⊢
  have hl : lv_has ls 1 [(0, .ref (ad 137))] := hl
  refine lv_aload_n hx hb dX6_rest_0 rfl (lv_at hl 0 rfl) ?_
  refine va_get (D := D) (ci := 5) (v := .int (M 137 26)) (C := RX6) (T := TX6) (N := 27) hx hb hts hin_RX6 hown hE.1 hP 137 (wd_at (M := M) (show 137 < n by omega) ((g_137 cy ad) _)) rfl 26 (by decide) hf66 (fun _ h9 => h9) rfl dX6_rest_1 ?_
  refine wr_top (y := w) hw ?_
  refine lv_iconst (v := (nI 1)) hx hb dX6_rest_4 (by decide) ?_
  refine lv_iushr (v := uS w (nI 1)) hx hb dX6_rest_5 rfl ?_
  refine wr_top (y := (nI (w.toBitVec.toNat / 2))) (uS1 w) ?_
  refine lv_sipush (v := (nI 1013)) hx hb dX6_rest_6 (by decide) ?_
  refine lv_irem hx hb dX6_rest_9 (by decide) ?_
  refine wr_top (y := (nI (rsN w 1013))) (rs_rem w (by decide) (by decide)) ?_
  exact W.iret (v := (nI (rsN w 1013))) hx hb hr (fun t ht hW => ⟨(nI (rsN w 1013)), rfl, rfl, ht⟩) (fun q h => nomatch h) dX6_rest_10

set_option maxHeartbeats 4000000 in
set_option maxRecDepth 100000 in
/-- model both -/
theorem kX6_both (l : Launch) {D : va_G} {cy ad : Nat → Nat} {n : Nat} {M : Mm} (hn : 154 ≤ n) {x z a b : Nat} (htb : tbP M) (hx0 : eltN x = true) (hz0 : eltN z = true) (ha : a < 1013) (hb0 : b < 1013) : Met l yX6_both wsX6_both ({ frames := 0, cells := 0, slots := 0, locals := 0 }) (va_Pc [.ref (ad 137), .int (nI x), .int (nI a), .int (nI z), .int (nI b)] (RO D cy (wd cy ad n M ++ []))) (vp_Si (fun r => r = nI (x ^ a * z ^ b % 2027))) 0 0 (fun _ => False) := by
  refine Met.ofW (cc := cX6_both) (maxL := 5) (ret := (some .int)) (by decide +kernel) rfl ?_
  intro p e s m args below meth c s₁ B hml hv
  obtain ⟨rfl, hP, hE⟩ := hv
  have hx := B.exec
  have hb := B.bytes
  have hr := B.returns
  have hts := atoms_spec (ws := wsX6_both) B.pre
  have hown : s.vm.findClass RX6 = some m.cls := findClass_of_methodNamed B.named
  have hlocks := B.notSynchronized
  have hf13 : (Cond.fieldLink RX6 13 "RingPetitionModel" "exponent" "[I").before #[.ref (ad 137), .int (nI x), .int (nI a), .int (nI z), .int (nI b)] s = true := hts _ (by decide +kernel)
  have hf7 : (Cond.fieldLink RX6 7 "RingPetitionModel" "power" "[I").before #[.ref (ad 137), .int (nI x), .int (nI a), .int (nI z), .int (nI b)] s = true := hts _ (by decide +kernel)
  have hin_RX6 : ∀ w ∈ u_ws RX6 TX6 27, w ∈ wsX6_both := by decide +kernel
  have hl := lv_entry ([.ref (ad 137), .int (nI x), .int (nI a), .int (nI z), .int (nI b)]) (n := 5) (Nat.le_of_ble_eq_true rfl)
  rw [lg_entry_eq]
  generalize (lg_sl ([.ref (ad 137), .int (nI x), .int (nI a), .int (nI z), .int (nI b)]) ++ List.replicate (5 - (lg_sl ([.ref (ad 137), .int (nI x), .int (nI a), .int (nI z), .int (nI b)])).length) Slot.unset).toArray = ls at hl ⊢
  have hl : lv_has ls 5 [(0, .ref (ad 137)), (1, .int (nI x)), (2, .int (nI a)), (3, .int (nI z)), (4, .int (nI b))] := hl
  refine lv_aload_n hx hb dX6_both_0 rfl (lv_at hl 0 rfl) ?_
  refine va_get (D := D) (ci := 5) (v := .ref (ad 138)) (C := RX6) (T := TX6) (N := 27) hx hb hts hin_RX6 hown hE.1 hP 137 (wd_at (M := M) (show 137 < n by omega) ((g_137 cy ad) _)) rfl 1 (by decide) hf7 (fun _ h9 => h9) rfl dX6_both_1 ?_
  refine lv_aload_n hx hb dX6_both_4 rfl (lv_at hl 0 rfl) ?_
  refine va_get (D := D) (ci := 5) (v := .ref (ad 139)) (C := RX6) (T := TX6) (N := 27) hx hb hts hin_RX6 hown hE.1 hP 137 (wd_at (M := M) (show 137 < n by omega) ((g_137 cy ad) _)) rfl 2 (by decide) hf13 (fun _ h9 => h9) rfl dX6_both_5 ?_
  refine lv_iload_n hx hb dX6_both_8 rfl (lv_at hl 1 rfl) ?_
  refine wr_ald (cy := cy) (ad := ad) (ex := []) hx hb hE.1 hP 139 (show 139 < n by omega) ((g_139 cy ad) _) x rfl (elt_lt hx0).2.1 (by decide) dX6_both_9 ?_
  refine wr_top (y := (nI (dlg x))) (tb_ex htb hx0) ?_
  refine lv_iload_n hx hb dX6_both_10 rfl (lv_at hl 2 rfl) ?_
  refine lv_imul hx hb dX6_both_11 ?_
  refine wr_top (y := (nI ((dlg x) * a))) (pk_mul _ _) ?_
  refine lv_aload_n hx hb dX6_both_12 rfl (lv_at hl 0 rfl) ?_
  refine va_get (D := D) (ci := 5) (v := .ref (ad 139)) (C := RX6) (T := TX6) (N := 27) hx hb hts hin_RX6 hown hE.1 hP 137 (wd_at (M := M) (show 137 < n by omega) ((g_137 cy ad) _)) rfl 2 (by decide) hf13 (fun _ h9 => h9) rfl dX6_both_13 ?_
  refine lv_iload_n hx hb dX6_both_16 rfl (lv_at hl 3 rfl) ?_
  refine wr_ald (cy := cy) (ad := ad) (ex := []) hx hb hE.1 hP 139 (show 139 < n by omega) ((g_139 cy ad) _) z rfl (elt_lt hz0).2.1 (by decide) dX6_both_17 ?_
  refine wr_top (y := (nI (dlg z))) (tb_ex htb hz0) ?_
  refine lv_iload hx hb dX6_both_18 (lv_at hl 4 rfl) ?_
  refine lv_imul hx hb dX6_both_20 ?_
  refine wr_top (y := (nI ((dlg z) * b))) (pk_mul _ _) ?_
  refine lv_iadd hx hb dX6_both_21 ?_
  refine wr_top (y := (nI (((dlg x) * a) + ((dlg z) * b)))) (nI_add _ _) ?_
  refine lv_sipush (v := (nI 1013)) hx hb dX6_both_22 (by decide) ?_
  refine lv_irem hx hb dX6_both_25 (by decide) ?_
  refine wr_top (y := (nI ((((dlg x) * a) + ((dlg z) * b)) % 1013))) (pk_rem (by exact bo_lt hx0 hz0 ha hb0) (by decide) (by decide)) ?_
  refine wr_ald (cy := cy) (ad := ad) (ex := []) hx hb hE.1 hP 138 (show 138 < n by omega) ((g_138 cy ad) _) ((((dlg x) * a) + ((dlg z) * b)) % 1013) rfl (Nat.mod_lt _ (by decide)) (by decide) dX6_both_26 ?_
  refine wr_top (y := (nI (x ^ a * z ^ b % 2027))) ((htb.1 _ (Nat.mod_lt _ (by decide))).trans (congrArg nI (bo_eq hx0 hz0))) ?_
  exact W.iret (v := (nI (x ^ a * z ^ b % 2027))) hx hb hr (fun t ht hW => ⟨(nI (x ^ a * z ^ b % 2027)), rfl, rfl, ht⟩) (fun q h => nomatch h) dX6_both_27

set_option maxHeartbeats 4000000 in
set_option maxRecDepth 100000 in
/-- model baseOf -/
theorem kX6_baseOf (l : Launch) {D : va_G} {cy ad : Nat → Nat} {n : Nat} {M : Mm} {A : Nat → Prop} (hD : ∀ M, va_D A (wd cy ad n M ++ [])) (hn : 154 ≤ n) {v : Int32} (htb : tbP M) : Met l yX6_baseOf wsX6_baseOf ({ frames := 1, cells := 0, slots := 0, locals := 21 }) (va_Pc [.ref (ad 137), .int v] (RW D cy (wd cy ad n M ++ []) A)) (va_Qi (S := Mm) (fun r u => r = nI (tB v) ∧ mxP M u) (fun u t => va_P D vwCl (wd cy ad n u ++ []) t.heap) A) 0 0 A := by
  refine Met.ofW (cc := cX6_baseOf) (maxL := 4) (ret := (some .int)) (by decide +kernel) rfl ?_
  intro p e s m args below meth c s₁ B hml hv
  obtain ⟨rfl, hP, hE, hA⟩ := hv
  have hx := B.exec
  have hb := B.bytes
  have hr := B.returns
  have hts := atoms_spec (ws := wsX6_baseOf) B.pre
  have hown : s.vm.findClass RX6 = some m.cls := findClass_of_methodNamed B.named
  have hlocks := B.notSynchronized
  have hf66 : (Cond.fieldLink RX6 66 "RingPetitionModel" "mixed" "I").before #[.ref (ad 137), .int v] s = true := hts _ (by decide +kernel)
  have hin_RX6 : ∀ w ∈ u_ws RX6 TX6 27, w ∈ wsX6_baseOf := by decide +kernel
  have hS : va_S A s.heap s.heap [] := va_S.rf
  have hl := lv_entry ([.ref (ad 137), .int v]) (n := 4) (Nat.le_of_ble_eq_true rfl)
  rw [lg_entry_eq]
  generalize (lg_sl ([.ref (ad 137), .int v]) ++ List.replicate (4 - (lg_sl ([.ref (ad 137), .int v])).length) Slot.unset).toArray = ls at hl ⊢
  have hl : lv_has ls 4 [(0, .ref (ad 137)), (1, .int v)] := hl
  refine lv_iconst (v := (nI 0)) hx hb dX6_baseOf_0 (by decide) ?_
  refine lv_istore_n (lv' := [(2, .int (nI 0)), (0, .ref (ad 137)), (1, .int v)]) hx hb dX6_baseOf_1 rfl hl (by decide) rfl (fun ls hl => ?_)
  refine wloopW (fun kq (xq : Nat × Mm) H locs ls => match xq with | (i, Mk) => kq = 64 - i ∧ (i ≤ 64 ∧ tB v = tbG v (64 - i) ∧ mxP M Mk) ∧ va_P D vwCl (wd cy ad n Mk ++ []) H ∧ va_S A s.heap H locs ∧ lv_has ls 4 [(2, .int (nI i)), (0, .ref (ad 137)), (1, .int v)]) (fun k2 x2 H locs ls h2 ih2 => ?_) _ (0, M) _ _ ls ⟨rfl, ⟨by decide, rfl, mx_rf _⟩, hP, hS, lv_sub hl [0, 1, 2] rfl⟩
  obtain ⟨i, Mk⟩ := x2
  obtain ⟨hk2, hI, hP, hS, hl⟩ := h2
  refine lv_iload_n hx hb dX6_baseOf_2 rfl (lv_at hl 0 rfl) ?_
  refine lv_bipush (v := (nI 64)) hx hb dX6_baseOf_3 (by decide) ?_
  refine lv_icmp_ge (tgt := 51) hx hb dX6_baseOf_5 (by decide) (fun c_5 => ?_) (fun c_5 => ?_)
  · have c_5 := (nI_leI (by omega) (by omega)).mp c_5
    refine lv_iconst (v := (nI 4)) hx hb dX6_baseOf_51 (by decide) ?_
    exact W.iret (v := (nI 4)) hx hb hr (fun t ht hW => ⟨⟨(nI 4), Mk, rfl, ⟨by rw [hI.2.1, show 64 - i = 0 by omega]; rfl, hI.2.2⟩, (by show va_P D vwCl _ t.heap; rw [ht]; exact hP)⟩, hS.F ht⟩) hS.2.2 dX6_baseOf_52
  · have c_5 := mt (nI_leI (by omega) (by omega)).mpr c_5
    refine lv_aload_n hx hb dX6_baseOf_8 rfl (lv_at hl 1 rfl) ?_
    refine lv_bipush (v := (nI 17)) hx hb dX6_baseOf_9 (by decide) ?_
    refine wr_put (cy := cy) (ad := ad) (ex := []) (ci := 5) (C := RX6) (T := TX6) (N := 27) (ty := .int) hx hb hts hin_RX6 tyX6 tyX6_ok nmX6 hown hE.1 hP hD hS 137 (show 137 < n by omega) ((g_137 cy ad) _) rfl 26 (by decide) hf66 (fun _ h9 => h9) rfl (by decide +kernel) rfl rfl (by simp) (((g_137 cy ad) _).trans (by simp [st_at])) dX6_baseOf_11 (fun H locs hP hS => ?_)
    refine lv_aload_n hx hb dX6_baseOf_14 rfl (lv_at hl 1 rfl) ?_
    refine lv_iload_n hx hb dX6_baseOf_15 rfl (lv_at hl 2 rfl) ?_
    refine va_callv (va_runV (As := [.int v]) (rest := []) ⟨hx, hb, hml, hown, hts⟩ (kX6_mix l hD hn (w := (nI 17)) (st_s _ _ _ _)) (cwV 1 hts gX6_baseOf_X6_mix rfl rfl rfl (by decide +kernel) ⟨Nat.le_of_ble_eq_true rfl, Nat.le_of_ble_eq_true rfl⟩) (rw_pv (ci := 5) (q := (RX6, TX6, 27)) hE hP hS hA rfl (wd_at (M := (st Mk 137 26 (nI 17))) (show 137 < n by omega) ((g_137 cy ad) _))) rfl rfl hl.1 rfl (lv_room (Nat.le_of_ble_eq_true rfl)) dX6_baseOf_16 ⟨Nat.le_of_ble_eq_true rfl, Nat.le_of_ble_eq_true rfl⟩) hS (fun q _ h => h) (fun q h => h) (fun u_16 t H1 locs ht hvm hr_16 hB_16 hz1 hk1 hS => ?_)
    have hP : va_P D vwCl (wd cy ad n u_16 ++ []) H1 := by rw [← ht]; exact hB_16
    clear hB_16 ht hvm hz1 hk1
    generalize H1 = H at hP hS ⊢
    rw [st_st] at hr_16
    subst hr_16
    refine lv_aload_n hx hb dX6_baseOf_19 rfl (lv_at hl 1 rfl) ?_
    refine lv_iload_n hx hb dX6_baseOf_20 rfl (lv_at hl 0 rfl) ?_
    refine va_callv (va_runV (As := [.int (nI i)]) (rest := []) ⟨hx, hb, hml, hown, hts⟩ (kX6_mix l hD hn (w := (mxI (nI 17) v)) (st_s _ _ _ _)) (cwV 1 hts gX6_baseOf_X6_mix rfl rfl rfl (by decide +kernel) ⟨Nat.le_of_ble_eq_true rfl, Nat.le_of_ble_eq_true rfl⟩) (rw_pv (ci := 5) (q := (RX6, TX6, 27)) hE hP hS hA rfl (wd_at (M := (st Mk 137 26 (mxI (nI 17) v))) (show 137 < n by omega) ((g_137 cy ad) _))) rfl rfl hl.1 rfl (lv_room (Nat.le_of_ble_eq_true rfl)) dX6_baseOf_21 ⟨Nat.le_of_ble_eq_true rfl, Nat.le_of_ble_eq_true rfl⟩) hS (fun q _ h => h) (fun q h => h) (fun u_21 t H1 locs ht hvm hr_21 hB_21 hz1 hk1 hS => ?_)
    have hP : va_P D vwCl (wd cy ad n u_21 ++ []) H1 := by rw [← ht]; exact hB_21
    clear hB_21 ht hvm hz1 hk1
    generalize H1 = H at hP hS ⊢
    rw [st_st] at hr_21
    subst hr_21
    refine lv_aload_n hx hb dX6_baseOf_24 rfl (lv_at hl 1 rfl) ?_
    refine va_get (D := D) (ci := 5) (v := .int ((st Mk 137 26 (mxI (mxI (nI 17) v) (nI i))) 137 26)) (C := RX6) (T := TX6) (N := 27) hx hb hts hin_RX6 hown hE.1 hP 137 (wd_at (M := (st Mk 137 26 (mxI (mxI (nI 17) v) (nI i)))) (show 137 < n by omega) ((g_137 cy ad) _)) rfl 26 (by decide) hf66 (fun _ h9 => h9) rfl dX6_baseOf_25 ?_
    refine wr_top (y := (mxI (mxI (nI 17) v) (nI i))) (st_s _ _ _ _) ?_
    refine lv_iconst (v := (nI 1)) hx hb dX6_baseOf_28 (by decide) ?_
    refine lv_iushr (v := uS (mxI (mxI (nI 17) v) (nI i)) (nI 1)) hx hb dX6_baseOf_29 rfl ?_
    refine wr_top (y := (nI ((mxI (mxI (nI 17) v) (nI i)).toBitVec.toNat / 2))) (uS1 _) ?_
    refine lv_sipush (v := (nI 2027)) hx hb dX6_baseOf_30 (by decide) ?_
    refine lv_irem hx hb dX6_baseOf_33 (by decide) ?_
    refine wr_top (y := (nI (tbm v i))) (rs_rem _ (by decide) (by decide)) ?_
    refine lv_istore_n (lv' := [(3, .int (nI (tbm v i))), (2, .int (nI i)), (0, .ref (ad 137)), (1, .int v)]) hx hb dX6_baseOf_34 rfl hl (by decide) rfl (fun ls hl => ?_)
    refine lv_aload_n hx hb dX6_baseOf_35 rfl (lv_at hl 2 rfl) ?_
    refine lv_iload_n hx hb dX6_baseOf_36 rfl (lv_at hl 0 rfl) ?_
    refine vp_callSi (W.runV (As := [.int (nI (tbm v i))]) (rest := []) ⟨hx, hb, hml, hown, hts⟩ (kX6_isKey l hn (tb_mx htb (by rw [st_r _ _ _ (by decide), hI.2.2.1 _ (by decide)]) (by rw [st_r _ _ _ (by decide), hI.2.2.1 _ (by decide)]))) (cwV 1 hts gX6_baseOf_X6_isKey rfl rfl rfl (by decide +kernel) ⟨Nat.le_of_ble_eq_true rfl, Nat.le_of_ble_eq_true rfl⟩) (ro_pv (ci := 5) (q := (RX6, TX6, 27)) hE hP rfl (wd_at (M := (st Mk 137 26 (mxI (mxI (nI 17) v) (nI i)))) (show 137 < n by omega) ((g_137 cy ad) _))) rfl rfl hl.1 rfl (lv_room (Nat.le_of_ble_eq_true rfl)) dX6_baseOf_37 ⟨Nat.le_of_ble_eq_true rfl, Nat.le_of_ble_eq_true rfl⟩) (fun r_37 hr_37 => ?_)
    have htl : tbm v i < 2027 := rs_lt _ (by decide)
    rw [vN_nI (show tbm v i < 2 ^ 31 by omega)] at hr_37
    rcases hr_37 with ⟨hq_37, rfl⟩ | ⟨hq_37, rfl⟩
    · refine lv_if_eq (tgt := 45) hx hb dX6_baseOf_40 (by decide) (fun c_40 => ?_) (fun c_40 => ?_)
      · exact absurd c_40 (by decide)
      · have c_40 := mt (o_eq0 _).mpr c_40
        refine lv_iload_n hx hb dX6_baseOf_43 rfl (lv_at hl 0 rfl) ?_
        exact W.iret (v := (nI (tbm v i))) hx hb hr (fun t ht hW => ⟨⟨(nI (tbm v i)), (st Mk 137 26 (mxI (mxI (nI 17) v) (nI i))), rfl, ⟨by rw [hI.2.1, tbG_hit (by omega) hq_37], mx_tr hI.2.2 (mx_st _ _)⟩, (by show va_P D vwCl _ t.heap; rw [ht]; exact hP)⟩, hS.F ht⟩) hS.2.2 dX6_baseOf_44
    · refine lv_if_eq (tgt := 45) hx hb dX6_baseOf_40 (by decide) (fun c_40 => ?_) (fun c_40 => ?_)
      · have c_40 := (o_eq0 _).mp c_40
        refine lv_iinc (v := (nI (i + 1))) (lv' := [(2, .int (nI (i + 1))), (3, .int (nI (tbm v i))), (0, .ref (ad 137)), (1, .int v)]) hx hb dX6_baseOf_45 hl (k := 1) rfl (nI_1 _) (by decide) rfl (fun ls hl => ?_)
        refine lv_goto (tgt := 2) hx hb dX6_baseOf_48 (by decide) ?_
        exact ih2 _ (i + 1, (st Mk 137 26 (mxI (mxI (nI 17) v) (nI i)))) _ _ _ (by omega) ⟨rfl, ⟨by omega, by rw [hI.2.1]; exact tbG_miss (by omega) hq_37, mx_tr hI.2.2 (mx_st _ _)⟩, hP, hS, (lv_sub hl [0, 2, 3] rfl)⟩
      · exact absurd c_40 (by decide)

set_option maxHeartbeats 4000000 in
set_option maxRecDepth 100000 in
/-- model challenge -/
theorem kX6_challenge (l : Launch) {D : va_G} {cy ad : Nat → Nat} {n : Nat} {M : Mm} {A : Nat → Prop} (hD : ∀ M, va_D A (wd cy ad n M ++ [])) (hn : 154 ≤ n) {z a b : Nat} (hz : M 137 20 = nI z) (hz6 : z ≤ 6) : Met l yX6_challenge wsX6_challenge ({ frames := 1, cells := 0, slots := 0, locals := 21 }) (va_Pc [.ref (ad 137), .int (nI a), .int (nI b)] (RW D cy (wd cy ad n M ++ []) A)) (va_Qi (S := Mm) (fun r u => r = nI (chN (stmI z (M 152) (M 137 23) (M 137 24) (M 153 1)) a b) ∧ mxP M u) (fun u t => va_P D vwCl (wd cy ad n u ++ []) t.heap) A) 0 0 A := by
  refine Met.ofW (cc := cX6_challenge) (maxL := 4) (ret := (some .int)) (by decide +kernel) rfl ?_
  intro p e s m args below meth c s₁ B hml hv
  obtain ⟨rfl, hP, hE, hA⟩ := hv
  have hx := B.exec
  have hb := B.bytes
  have hr := B.returns
  have hts := atoms_spec (ws := wsX6_challenge) B.pre
  have hown : s.vm.findClass RX6 = some m.cls := findClass_of_methodNamed B.named
  have hlocks := B.notSynchronized
  have hf57 : (Cond.fieldLink RX6 57 "RingPetitionModel" "y" "[I").before #[.ref (ad 137), .int (nI a), .int (nI b)] s = true := hts _ (by decide +kernel)
  have hf60 : (Cond.fieldLink RX6 60 "RingPetitionModel" "numbers" "[I").before #[.ref (ad 137), .int (nI a), .int (nI b)] s = true := hts _ (by decide +kernel)
  have hf66 : (Cond.fieldLink RX6 66 "RingPetitionModel" "mixed" "I").before #[.ref (ad 137), .int (nI a), .int (nI b)] s = true := hts _ (by decide +kernel)
  have hf78 : (Cond.fieldLink RX6 78 "RingPetitionModel" "n" "I").before #[.ref (ad 137), .int (nI a), .int (nI b)] s = true := hts _ (by decide +kernel)
  have hf81 : (Cond.fieldLink RX6 81 "RingPetitionModel" "value" "I").before #[.ref (ad 137), .int (nI a), .int (nI b)] s = true := hts _ (by decide +kernel)
  have hf84 : (Cond.fieldLink RX6 84 "RingPetitionModel" "motion" "I").before #[.ref (ad 137), .int (nI a), .int (nI b)] s = true := hts _ (by decide +kernel)
  have hin_RX6 : ∀ w ∈ u_ws RX6 TX6 27, w ∈ wsX6_challenge := by decide +kernel
  have hS : va_S A s.heap s.heap [] := va_S.rf
  have hl := lv_entry ([.ref (ad 137), .int (nI a), .int (nI b)]) (n := 4) (Nat.le_of_ble_eq_true rfl)
  rw [lg_entry_eq]
  generalize (lg_sl ([.ref (ad 137), .int (nI a), .int (nI b)]) ++ List.replicate (4 - (lg_sl ([.ref (ad 137), .int (nI a), .int (nI b)])).length) Slot.unset).toArray = ls at hl ⊢
  have hl : lv_has ls 4 [(0, .ref (ad 137)), (1, .int (nI a)), (2, .int (nI b))] := hl
  refine lv_aload_n hx hb dX6_challenge_0 rfl (lv_at hl 0 rfl) ?_
  refine lv_bipush (v := (nI 17)) hx hb dX6_challenge_1 (by decide) ?_
  refine wr_put (cy := cy) (ad := ad) (ex := []) (ci := 5) (C := RX6) (T := TX6) (N := 27) (ty := .int) hx hb hts hin_RX6 tyX6 tyX6_ok nmX6 hown hE.1 hP hD hS 137 (show 137 < n by omega) ((g_137 cy ad) _) rfl 26 (by decide) hf66 (fun _ h9 => h9) rfl (by decide +kernel) rfl rfl (by simp) (((g_137 cy ad) _).trans (by simp [st_at])) dX6_challenge_3 (fun H locs hP hS => ?_)
  refine lv_aload_n hx hb dX6_challenge_6 rfl (lv_at hl 0 rfl) ?_
  refine lv_aload_n hx hb dX6_challenge_7 rfl (lv_at hl 0 rfl) ?_
  refine va_get (D := D) (ci := 5) (v := .int ((st M 137 26 (nI 17)) 137 20)) (C := RX6) (T := TX6) (N := 27) hx hb hts hin_RX6 hown hE.1 hP 137 (wd_at (M := (st M 137 26 (nI 17))) (show 137 < n by omega) ((g_137 cy ad) _)) rfl 20 (by decide) hf78 (fun _ h9 => h9) rfl dX6_challenge_8 ?_
  refine wr_top (y := (M 137 20)) (st_c _ _ _ (by decide)) ?_
  refine wr_top (y := (nI z)) hz ?_
  refine va_callv (va_runV (As := [.int (nI z)]) (rest := []) ⟨hx, hb, hml, hown, hts⟩ (kX6_mix l hD hn (w := (nI 17)) (st_s _ _ _ _)) (cwV 1 hts gX6_challenge_X6_mix rfl rfl rfl (by decide +kernel) ⟨Nat.le_of_ble_eq_true rfl, Nat.le_of_ble_eq_true rfl⟩) (rw_pv (ci := 5) (q := (RX6, TX6, 27)) hE hP hS hA rfl (wd_at (M := (st M 137 26 (nI 17))) (show 137 < n by omega) ((g_137 cy ad) _))) rfl rfl hl.1 rfl (lv_room (Nat.le_of_ble_eq_true rfl)) dX6_challenge_11 ⟨Nat.le_of_ble_eq_true rfl, Nat.le_of_ble_eq_true rfl⟩) hS (fun q _ h => h) (fun q h => h) (fun u_11 t H1 locs ht hvm hr_11 hB_11 hz1 hk1 hS => ?_)
  have hP : va_P D vwCl (wd cy ad n u_11 ++ []) H1 := by rw [← ht]; exact hB_11
  clear hB_11 ht hvm hz1 hk1
  generalize H1 = H at hP hS ⊢
  rw [st_st] at hr_11
  subst hr_11
  refine lv_iconst (v := (nI 0)) hx hb dX6_challenge_14 (by decide) ?_
  refine lv_istore_n (lv' := [(3, .int (nI 0)), (0, .ref (ad 137)), (1, .int (nI a)), (2, .int (nI b))]) hx hb dX6_challenge_15 rfl hl (by decide) rfl (fun ls hl => ?_)
  refine wloopW (fun kq (i : Nat) H locs ls => kq = z - i ∧ (i ≤ z ∧ True) ∧ va_P D vwCl (wd cy ad n (st M 137 26 (stmF (mxI (nI 17) (nI z)) (M 152) i)) ++ []) H ∧ va_S A s.heap H locs ∧ lv_has ls 4 [(3, .int (nI i)), (0, .ref (ad 137)), (1, .int (nI a)), (2, .int (nI b))]) (fun k16 i H locs ls h16 ih16 => ?_) _ 0 _ _ ls ⟨rfl, ⟨Nat.zero_le _, trivial⟩, hP, hS, lv_sub hl [0, 1, 2, 3] rfl⟩
  obtain ⟨hk16, hI, hP, hS, hl⟩ := h16
  refine lv_iload_n hx hb dX6_challenge_16 rfl (lv_at hl 0 rfl) ?_
  refine lv_aload_n hx hb dX6_challenge_17 rfl (lv_at hl 1 rfl) ?_
  refine va_get (D := D) (ci := 5) (v := .int ((st M 137 26 (stmF (mxI (nI 17) (nI z)) (M 152) i)) 137 20)) (C := RX6) (T := TX6) (N := 27) hx hb hts hin_RX6 hown hE.1 hP 137 (wd_at (M := (st M 137 26 (stmF (mxI (nI 17) (nI z)) (M 152) i))) (show 137 < n by omega) ((g_137 cy ad) _)) rfl 20 (by decide) hf78 (fun _ h9 => h9) rfl dX6_challenge_18 ?_
  refine wr_top (y := (M 137 20)) (st_c _ _ _ (by decide)) ?_
  refine wr_top (y := (nI z)) hz ?_
  refine lv_icmp_ge (tgt := 40) hx hb dX6_challenge_21 (by decide) (fun c_21 => ?_) (fun c_21 => ?_)
  · have c_21 := (nI_leI (by omega) (by omega)).mp c_21
    rw [show i = z by omega] at hP
    refine lv_aload_n hx hb dX6_challenge_40 rfl (lv_at hl 1 rfl) ?_
    refine lv_aload_n hx hb dX6_challenge_41 rfl (lv_at hl 1 rfl) ?_
    refine va_get (D := D) (ci := 5) (v := .int ((st M 137 26 (stmF (mxI (nI 17) (nI z)) (M 152) z)) 137 23)) (C := RX6) (T := TX6) (N := 27) hx hb hts hin_RX6 hown hE.1 hP 137 (wd_at (M := (st M 137 26 (stmF (mxI (nI 17) (nI z)) (M 152) z))) (show 137 < n by omega) ((g_137 cy ad) _)) rfl 23 (by decide) hf81 (fun _ h9 => h9) rfl dX6_challenge_42 ?_
    refine wr_top (y := (M 137 23)) (st_c _ _ _ (by decide)) ?_
    refine va_callv (va_runV (As := [.int (M 137 23)]) (rest := []) ⟨hx, hb, hml, hown, hts⟩ (kX6_mix l hD hn (w := (stmF (mxI (nI 17) (nI z)) (M 152) z)) (st_s _ _ _ _)) (cwV 1 hts gX6_challenge_X6_mix rfl rfl rfl (by decide +kernel) ⟨Nat.le_of_ble_eq_true rfl, Nat.le_of_ble_eq_true rfl⟩) (rw_pv (ci := 5) (q := (RX6, TX6, 27)) hE hP hS hA rfl (wd_at (M := (st M 137 26 (stmF (mxI (nI 17) (nI z)) (M 152) z))) (show 137 < n by omega) ((g_137 cy ad) _))) rfl rfl hl.1 rfl (lv_room (Nat.le_of_ble_eq_true rfl)) dX6_challenge_45 ⟨Nat.le_of_ble_eq_true rfl, Nat.le_of_ble_eq_true rfl⟩) hS (fun q _ h => h) (fun q h => h) (fun u_45 t H1 locs ht hvm hr_45 hB_45 hz1 hk1 hS => ?_)
    have hP : va_P D vwCl (wd cy ad n u_45 ++ []) H1 := by rw [← ht]; exact hB_45
    clear hB_45 ht hvm hz1 hk1
    generalize H1 = H at hP hS ⊢
    rw [st_st] at hr_45
    subst hr_45
    refine lv_aload_n hx hb dX6_challenge_48 rfl (lv_at hl 1 rfl) ?_
    refine lv_aload_n hx hb dX6_challenge_49 rfl (lv_at hl 1 rfl) ?_
    refine va_get (D := D) (ci := 5) (v := .int ((st M 137 26 (mxI (stmF (mxI (nI 17) (nI z)) (M 152) z) (M 137 23))) 137 24)) (C := RX6) (T := TX6) (N := 27) hx hb hts hin_RX6 hown hE.1 hP 137 (wd_at (M := (st M 137 26 (mxI (stmF (mxI (nI 17) (nI z)) (M 152) z) (M 137 23)))) (show 137 < n by omega) ((g_137 cy ad) _)) rfl 24 (by decide) hf84 (fun _ h9 => h9) rfl dX6_challenge_50 ?_
    refine wr_top (y := (M 137 24)) (st_c _ _ _ (by decide)) ?_
    refine va_callv (va_runV (As := [.int (M 137 24)]) (rest := []) ⟨hx, hb, hml, hown, hts⟩ (kX6_mix l hD hn (w := (mxI (stmF (mxI (nI 17) (nI z)) (M 152) z) (M 137 23))) (st_s _ _ _ _)) (cwV 1 hts gX6_challenge_X6_mix rfl rfl rfl (by decide +kernel) ⟨Nat.le_of_ble_eq_true rfl, Nat.le_of_ble_eq_true rfl⟩) (rw_pv (ci := 5) (q := (RX6, TX6, 27)) hE hP hS hA rfl (wd_at (M := (st M 137 26 (mxI (stmF (mxI (nI 17) (nI z)) (M 152) z) (M 137 23)))) (show 137 < n by omega) ((g_137 cy ad) _))) rfl rfl hl.1 rfl (lv_room (Nat.le_of_ble_eq_true rfl)) dX6_challenge_53 ⟨Nat.le_of_ble_eq_true rfl, Nat.le_of_ble_eq_true rfl⟩) hS (fun q _ h => h) (fun q h => h) (fun u_53 t H1 locs ht hvm hr_53 hB_53 hz1 hk1 hS => ?_)
    have hP : va_P D vwCl (wd cy ad n u_53 ++ []) H1 := by rw [← ht]; exact hB_53
    clear hB_53 ht hvm hz1 hk1
    generalize H1 = H at hP hS ⊢
    rw [st_st] at hr_53
    subst hr_53
    refine lv_aload_n hx hb dX6_challenge_56 rfl (lv_at hl 1 rfl) ?_
    refine lv_aload_n hx hb dX6_challenge_57 rfl (lv_at hl 1 rfl) ?_
    refine va_get (D := D) (ci := 5) (v := .ref (ad 153)) (C := RX6) (T := TX6) (N := 27) hx hb hts hin_RX6 hown hE.1 hP 137 (wd_at (M := (st M 137 26 (mxI (mxI (stmF (mxI (nI 17) (nI z)) (M 152) z) (M 137 23)) (M 137 24)))) (show 137 < n by omega) ((g_137 cy ad) _)) rfl 25 (by decide) hf60 (fun _ h9 => h9) rfl dX6_challenge_58 ?_
    refine lv_iconst (v := (nI 1)) hx hb dX6_challenge_61 (by decide) ?_
    refine wr_ald (cy := cy) (ad := ad) (ex := []) hx hb hE.1 hP 153 (show 153 < n by omega) ((g_153 cy ad) _) 1 rfl (by omega) (by decide) dX6_challenge_62 ?_
    refine wr_top (y := (M 153 1)) (by rw [st_r _ _ _ (by decide)]) ?_
    refine va_callv (va_runV (As := [.int (M 153 1)]) (rest := []) ⟨hx, hb, hml, hown, hts⟩ (kX6_mix l hD hn (w := (mxI (mxI (stmF (mxI (nI 17) (nI z)) (M 152) z) (M 137 23)) (M 137 24))) (st_s _ _ _ _)) (cwV 1 hts gX6_challenge_X6_mix rfl rfl rfl (by decide +kernel) ⟨Nat.le_of_ble_eq_true rfl, Nat.le_of_ble_eq_true rfl⟩) (rw_pv (ci := 5) (q := (RX6, TX6, 27)) hE hP hS hA rfl (wd_at (M := (st M 137 26 (mxI (mxI (stmF (mxI (nI 17) (nI z)) (M 152) z) (M 137 23)) (M 137 24)))) (show 137 < n by omega) ((g_137 cy ad) _))) rfl rfl hl.1 rfl (lv_room (Nat.le_of_ble_eq_true rfl)) dX6_challenge_63 ⟨Nat.le_of_ble_eq_true rfl, Nat.le_of_ble_eq_true rfl⟩) hS (fun q _ h => h) (fun q h => h) (fun u_63 t H1 locs ht hvm hr_63 hB_63 hz1 hk1 hS => ?_)
    have hP : va_P D vwCl (wd cy ad n u_63 ++ []) H1 := by rw [← ht]; exact hB_63
    clear hB_63 ht hvm hz1 hk1
    generalize H1 = H at hP hS ⊢
    rw [st_st] at hr_63
    subst hr_63
    refine lv_aload_n hx hb dX6_challenge_66 rfl (lv_at hl 1 rfl) ?_
    refine lv_iload_n hx hb dX6_challenge_67 rfl (lv_at hl 2 rfl) ?_
    refine va_callv (va_runV (As := [.int (nI a)]) (rest := []) ⟨hx, hb, hml, hown, hts⟩ (kX6_mix l hD hn (w := (mxI (mxI (mxI (stmF (mxI (nI 17) (nI z)) (M 152) z) (M 137 23)) (M 137 24)) (M 153 1))) (st_s _ _ _ _)) (cwV 1 hts gX6_challenge_X6_mix rfl rfl rfl (by decide +kernel) ⟨Nat.le_of_ble_eq_true rfl, Nat.le_of_ble_eq_true rfl⟩) (rw_pv (ci := 5) (q := (RX6, TX6, 27)) hE hP hS hA rfl (wd_at (M := (st M 137 26 (mxI (mxI (mxI (stmF (mxI (nI 17) (nI z)) (M 152) z) (M 137 23)) (M 137 24)) (M 153 1)))) (show 137 < n by omega) ((g_137 cy ad) _))) rfl rfl hl.1 rfl (lv_room (Nat.le_of_ble_eq_true rfl)) dX6_challenge_68 ⟨Nat.le_of_ble_eq_true rfl, Nat.le_of_ble_eq_true rfl⟩) hS (fun q _ h => h) (fun q h => h) (fun u_68 t H1 locs ht hvm hr_68 hB_68 hz1 hk1 hS => ?_)
    have hP : va_P D vwCl (wd cy ad n u_68 ++ []) H1 := by rw [← ht]; exact hB_68
    clear hB_68 ht hvm hz1 hk1
    generalize H1 = H at hP hS ⊢
    rw [st_st] at hr_68
    subst hr_68
    refine lv_aload_n hx hb dX6_challenge_71 rfl (lv_at hl 1 rfl) ?_
    refine lv_iload_n hx hb dX6_challenge_72 rfl (lv_at hl 3 rfl) ?_
    refine va_callv (va_runV (As := [.int (nI b)]) (rest := []) ⟨hx, hb, hml, hown, hts⟩ (kX6_mix l hD hn (w := (mxI (mxI (mxI (mxI (stmF (mxI (nI 17) (nI z)) (M 152) z) (M 137 23)) (M 137 24)) (M 153 1)) (nI a))) (st_s _ _ _ _)) (cwV 1 hts gX6_challenge_X6_mix rfl rfl rfl (by decide +kernel) ⟨Nat.le_of_ble_eq_true rfl, Nat.le_of_ble_eq_true rfl⟩) (rw_pv (ci := 5) (q := (RX6, TX6, 27)) hE hP hS hA rfl (wd_at (M := (st M 137 26 (mxI (mxI (mxI (mxI (stmF (mxI (nI 17) (nI z)) (M 152) z) (M 137 23)) (M 137 24)) (M 153 1)) (nI a)))) (show 137 < n by omega) ((g_137 cy ad) _))) rfl rfl hl.1 rfl (lv_room (Nat.le_of_ble_eq_true rfl)) dX6_challenge_73 ⟨Nat.le_of_ble_eq_true rfl, Nat.le_of_ble_eq_true rfl⟩) hS (fun q _ h => h) (fun q h => h) (fun u_73 t H1 locs ht hvm hr_73 hB_73 hz1 hk1 hS => ?_)
    have hP : va_P D vwCl (wd cy ad n u_73 ++ []) H1 := by rw [← ht]; exact hB_73
    clear hB_73 ht hvm hz1 hk1
    generalize H1 = H at hP hS ⊢
    rw [st_st] at hr_73
    subst hr_73
    refine lv_aload_n hx hb dX6_challenge_76 rfl (lv_at hl 1 rfl) ?_
    refine vp_callSi (W.runV (As := []) (rest := []) ⟨hx, hb, hml, hown, hts⟩ (kX6_rest l hn (w := (mxI (mxI (mxI (mxI (mxI (stmF (mxI (nI 17) (nI z)) (M 152) z) (M 137 23)) (M 137 24)) (M 153 1)) (nI a)) (nI b))) (st_s _ _ _ _)) (cwV 0 hts gX6_challenge_X6_rest rfl rfl rfl (by decide +kernel) ⟨Nat.le_of_ble_eq_true rfl, Nat.le_of_ble_eq_true rfl⟩) (ro_pv (ci := 5) (q := (RX6, TX6, 27)) hE hP rfl (wd_at (M := (st M 137 26 (mxI (mxI (mxI (mxI (mxI (stmF (mxI (nI 17) (nI z)) (M 152) z) (M 137 23)) (M 137 24)) (M 153 1)) (nI a)) (nI b)))) (show 137 < n by omega) ((g_137 cy ad) _))) rfl rfl hl.1 rfl (lv_room (Nat.le_of_ble_eq_true rfl)) dX6_challenge_77 ⟨Nat.le_of_ble_eq_true rfl, Nat.le_of_ble_eq_true rfl⟩) (fun r_77 hr_77 => ?_)
    subst hr_77
    exact W.iret (v := (nI (rsN (mxI (mxI (mxI (mxI (mxI (stmF (mxI (nI 17) (nI z)) (M 152) z) (M 137 23)) (M 137 24)) (M 153 1)) (nI a)) (nI b)) 1013))) hx hb hr (fun t ht hW => ⟨⟨(nI (rsN (mxI (mxI (mxI (mxI (mxI (stmF (mxI (nI 17) (nI z)) (M 152) z) (M 137 23)) (M 137 24)) (M 153 1)) (nI a)) (nI b)) 1013)), (st M 137 26 (mxI (mxI (mxI (mxI (mxI (stmF (mxI (nI 17) (nI z)) (M 152) z) (M 137 23)) (M 137 24)) (M 153 1)) (nI a)) (nI b))), rfl, ⟨rfl, mx_st _ _⟩, (by show va_P D vwCl _ t.heap; rw [ht]; exact hP)⟩, hS.F ht⟩) hS.2.2 dX6_challenge_80
  · have c_21 := mt (nI_leI (by omega) (by omega)).mpr c_21
    refine lv_aload_n hx hb dX6_challenge_24 rfl (lv_at hl 1 rfl) ?_
    refine lv_aload_n hx hb dX6_challenge_25 rfl (lv_at hl 1 rfl) ?_
    refine va_get (D := D) (ci := 5) (v := .ref (ad 152)) (C := RX6) (T := TX6) (N := 27) hx hb hts hin_RX6 hown hE.1 hP 137 (wd_at (M := (st M 137 26 (stmF (mxI (nI 17) (nI z)) (M 152) i))) (show 137 < n by omega) ((g_137 cy ad) _)) rfl 21 (by decide) hf57 (fun _ h9 => h9) rfl dX6_challenge_26 ?_
    refine lv_iload_n hx hb dX6_challenge_29 rfl (lv_at hl 0 rfl) ?_
    refine wr_ald (cy := cy) (ad := ad) (ex := []) hx hb hE.1 hP 152 (show 152 < n by omega) ((g_152 cy ad) _) i rfl (by omega) (by decide) dX6_challenge_30 ?_
    refine wr_top (y := (M 152 i)) (by rw [st_r _ _ _ (by decide)]) ?_
    refine va_callv (va_runV (As := [.int (M 152 i)]) (rest := []) ⟨hx, hb, hml, hown, hts⟩ (kX6_mix l hD hn (w := (stmF (mxI (nI 17) (nI z)) (M 152) i)) (st_s _ _ _ _)) (cwV 1 hts gX6_challenge_X6_mix rfl rfl rfl (by decide +kernel) ⟨Nat.le_of_ble_eq_true rfl, Nat.le_of_ble_eq_true rfl⟩) (rw_pv (ci := 5) (q := (RX6, TX6, 27)) hE hP hS hA rfl (wd_at (M := (st M 137 26 (stmF (mxI (nI 17) (nI z)) (M 152) i))) (show 137 < n by omega) ((g_137 cy ad) _))) rfl rfl hl.1 rfl (lv_room (Nat.le_of_ble_eq_true rfl)) dX6_challenge_31 ⟨Nat.le_of_ble_eq_true rfl, Nat.le_of_ble_eq_true rfl⟩) hS (fun q _ h => h) (fun q h => h) (fun u_31 t H1 locs ht hvm hr_31 hB_31 hz1 hk1 hS => ?_)
    have hP : va_P D vwCl (wd cy ad n u_31 ++ []) H1 := by rw [← ht]; exact hB_31
    clear hB_31 ht hvm hz1 hk1
    generalize H1 = H at hP hS ⊢
    rw [st_st] at hr_31
    subst hr_31
    refine lv_iinc (v := (nI (i + 1))) (lv' := [(3, .int (nI (i + 1))), (0, .ref (ad 137)), (1, .int (nI a)), (2, .int (nI b))]) hx hb dX6_challenge_34 hl (k := 0) rfl (nI_1 _) (by decide) rfl (fun ls hl => ?_)
    refine lv_goto (tgt := 16) hx hb dX6_challenge_37 (by decide) ?_
    exact ih16 _ (i + 1) _ _ _ (by omega) ⟨rfl, ⟨by omega, trivial⟩, hP, hS, lv_sub hl [0, 1, 2, 3] rfl⟩
