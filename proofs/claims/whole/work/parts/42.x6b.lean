theorem bP_iff {P Q : Prop} {r : Int32} (h : P ↔ Q) (hb : bP P r) : bP Q r := by
  rcases hb with ⟨h1, h2⟩ | ⟨h1, h2⟩
  · exact Or.inl ⟨h.mp h1, h2⟩
  · exact Or.inr ⟨fun h9 => h1 (h.mpr h9), h2⟩
/-- what 'look' makes of the memory -/
def lkP (M N : Mm) (z rq tq : Nat) (mo : Int32) : Prop := (∀ a, a ≠ 137 → a ≠ 152 → N a = M a) ∧ (∀ c, c ≠ 20 → c ≠ 22 → c ≠ 23 → c ≠ 24 → N 137 c = M 137 c) ∧ N 137 20 = nI z ∧ N 137 22 = M 144 tq ∧ N 137 23 = M 143 tq ∧ N 137 24 = mo ∧ ∀ j, j < z → N 152 j = M 142 (6 * rq + j)
/-- the numbers looked at are a good signature's -/
def gdM (M : Mm) (z bB : Nat) : Prop := gdP z (M 152) (M 137 23) (M 137 24) bB (M 153)
theorem gdM_mx {M N : Mm} {z bB : Nat} (h : mxP M N) : gdM N z bB ↔ gdM M z bB := by unfold gdM; rw [h.1 152 (by decide), h.1 153 (by decide), h.2 23 (by decide), h.2 24 (by decide)]

set_option maxHeartbeats 4000000 in
set_option maxRecDepth 100000 in
/-- model noRing -/
theorem kX6_noRing (l : Launch) {D : va_G} {cy ad : Nat → Nat} {n : Nat} {M : Mm} (hn : 154 ≤ n) {rc : Nat} (hrc : M 137 5 = nI rc) (hrc8 : rc ≤ 8) {x : Int32} : Met l yX6_noRing wsX6_noRing ({ frames := 0, cells := 0, slots := 0, locals := 0 }) (va_Pc [.ref (ad 137), .int x] (RO D cy (wd cy ad n M ++ []))) (vp_Si (fun r => bP (¬ (0 ≤ x.toInt ∧ x.toInt < (rc : Int))) r)) 0 0 (fun _ => False) := by
  refine Met.ofW (cc := cX6_noRing) (maxL := 2) (ret := (some .boolean)) (by decide +kernel) rfl ?_
  intro p e s m args below meth c s₁ B hml hv
  obtain ⟨rfl, hP, hE⟩ := hv
  have hx := B.exec
  have hb := B.bytes
  have hr := B.returns
  have hts := atoms_spec (ws := wsX6_noRing) B.pre
  have hown : s.vm.findClass RX6 = some m.cls := findClass_of_methodNamed B.named
  have hlocks := B.notSynchronized
  have hf112 : (Cond.fieldLink RX6 112 "RingPetitionModel" "rings" "I").before #[.ref (ad 137), .int x] s = true := hts _ (by decide +kernel)
  have hin_RX6 : ∀ w ∈ u_ws RX6 TX6 27, w ∈ wsX6_noRing := by decide +kernel
  have hl := lv_entry ([.ref (ad 137), .int x]) (n := 2) (Nat.le_of_ble_eq_true rfl)
  rw [lg_entry_eq]
  generalize (lg_sl ([.ref (ad 137), .int x]) ++ List.replicate (2 - (lg_sl ([.ref (ad 137), .int x])).length) Slot.unset).toArray = ls at hl ⊢
  have hl : lv_has ls 2 [(0, .ref (ad 137)), (1, .int x)] := hl
  refine lv_iload_n hx hb dX6_noRing_0 rfl (lv_at hl 1 rfl) ?_
  refine lv_if_lt (tgt := 12) hx hb dX6_noRing_1 (by decide) (fun c_1 => ?_) (fun c_1 => ?_)
  · have c_1 := (o_lt0 _).mp c_1
    refine lv_iconst (v := (nI 1)) hx hb dX6_noRing_12 (by decide) ?_
    refine lv_goto (tgt := 17) hx hb dX6_noRing_13 (by decide) ?_
    exact W.zret (v := (nI 1)) hx hb hr rfl (fun t ht hW => ⟨(nI 1), rfl, (bP_1 (by omega)), ht⟩) (fun q h => nomatch h) dX6_noRing_17
  · have c_1 := mt (o_lt0 _).mpr c_1
    refine lv_iload_n hx hb dX6_noRing_4 rfl (lv_at hl 1 rfl) ?_
    refine lv_aload_n hx hb dX6_noRing_5 rfl (lv_at hl 0 rfl) ?_
    refine va_get (D := D) (ci := 5) (v := .int (M 137 5)) (C := RX6) (T := TX6) (N := 27) hx hb hts hin_RX6 hown hE.1 hP 137 (wd_at (M := M) (show 137 < n by omega) ((g_137 cy ad) _)) rfl 5 (by decide) hf112 (fun _ h9 => h9) rfl dX6_noRing_6 ?_
    refine wr_top (y := (nI rc)) hrc ?_
    refine lv_icmp_lt (tgt := 16) hx hb dX6_noRing_9 (by decide) (fun c_9 => ?_) (fun c_9 => ?_)
    · have c_9 := (o_gt (by omega) _).mp c_9
      refine lv_iconst (v := (nI 0)) hx hb dX6_noRing_16 (by decide) ?_
      exact W.zret (v := (nI 0)) hx hb hr rfl (fun t ht hW => ⟨(nI 0), rfl, (bP_0 (fun h => h (by omega))), ht⟩) (fun q h => nomatch h) dX6_noRing_17
    · have c_9 := mt (o_gt (by omega) _).mpr c_9
      refine lv_iconst (v := (nI 1)) hx hb dX6_noRing_12 (by decide) ?_
      refine lv_goto (tgt := 17) hx hb dX6_noRing_13 (by decide) ?_
      exact W.zret (v := (nI 1)) hx hb hr rfl (fun t ht hW => ⟨(nI 1), rfl, (bP_1 (by omega)), ht⟩) (fun q h => nomatch h) dX6_noRing_17

set_option maxHeartbeats 4000000 in
set_option maxRecDepth 100000 in
/-- model noTopic -/
theorem kX6_noTopic (l : Launch) {D : va_G} {cy ad : Nat → Nat} {n : Nat} {M : Mm} (hn : 154 ≤ n) {rc : Nat} (hrc : M 137 8 = nI rc) (hrc8 : rc ≤ 8) {x : Int32} : Met l yX6_noTopic wsX6_noTopic ({ frames := 0, cells := 0, slots := 0, locals := 0 }) (va_Pc [.ref (ad 137), .int x] (RO D cy (wd cy ad n M ++ []))) (vp_Si (fun r => bP (¬ (0 ≤ x.toInt ∧ x.toInt < (rc : Int))) r)) 0 0 (fun _ => False) := by
  refine Met.ofW (cc := cX6_noTopic) (maxL := 2) (ret := (some .boolean)) (by decide +kernel) rfl ?_
  intro p e s m args below meth c s₁ B hml hv
  obtain ⟨rfl, hP, hE⟩ := hv
  have hx := B.exec
  have hb := B.bytes
  have hr := B.returns
  have hts := atoms_spec (ws := wsX6_noTopic) B.pre
  have hown : s.vm.findClass RX6 = some m.cls := findClass_of_methodNamed B.named
  have hlocks := B.notSynchronized
  have hf115 : (Cond.fieldLink RX6 115 "RingPetitionModel" "topics" "I").before #[.ref (ad 137), .int x] s = true := hts _ (by decide +kernel)
  have hin_RX6 : ∀ w ∈ u_ws RX6 TX6 27, w ∈ wsX6_noTopic := by decide +kernel
  have hl := lv_entry ([.ref (ad 137), .int x]) (n := 2) (Nat.le_of_ble_eq_true rfl)
  rw [lg_entry_eq]
  generalize (lg_sl ([.ref (ad 137), .int x]) ++ List.replicate (2 - (lg_sl ([.ref (ad 137), .int x])).length) Slot.unset).toArray = ls at hl ⊢
  have hl : lv_has ls 2 [(0, .ref (ad 137)), (1, .int x)] := hl
  refine lv_iload_n hx hb dX6_noTopic_0 rfl (lv_at hl 1 rfl) ?_
  refine lv_if_lt (tgt := 12) hx hb dX6_noTopic_1 (by decide) (fun c_1 => ?_) (fun c_1 => ?_)
  · have c_1 := (o_lt0 _).mp c_1
    refine lv_iconst (v := (nI 1)) hx hb dX6_noTopic_12 (by decide) ?_
    refine lv_goto (tgt := 17) hx hb dX6_noTopic_13 (by decide) ?_
    exact W.zret (v := (nI 1)) hx hb hr rfl (fun t ht hW => ⟨(nI 1), rfl, (bP_1 (by omega)), ht⟩) (fun q h => nomatch h) dX6_noTopic_17
  · have c_1 := mt (o_lt0 _).mpr c_1
    refine lv_iload_n hx hb dX6_noTopic_4 rfl (lv_at hl 1 rfl) ?_
    refine lv_aload_n hx hb dX6_noTopic_5 rfl (lv_at hl 0 rfl) ?_
    refine va_get (D := D) (ci := 5) (v := .int (M 137 8)) (C := RX6) (T := TX6) (N := 27) hx hb hts hin_RX6 hown hE.1 hP 137 (wd_at (M := M) (show 137 < n by omega) ((g_137 cy ad) _)) rfl 8 (by decide) hf115 (fun _ h9 => h9) rfl dX6_noTopic_6 ?_
    refine wr_top (y := (nI rc)) hrc ?_
    refine lv_icmp_lt (tgt := 16) hx hb dX6_noTopic_9 (by decide) (fun c_9 => ?_) (fun c_9 => ?_)
    · have c_9 := (o_gt (by omega) _).mp c_9
      refine lv_iconst (v := (nI 0)) hx hb dX6_noTopic_16 (by decide) ?_
      exact W.zret (v := (nI 0)) hx hb hr rfl (fun t ht hW => ⟨(nI 0), rfl, (bP_0 (fun h => h (by omega))), ht⟩) (fun q h => nomatch h) dX6_noTopic_17
    · have c_9 := mt (o_gt (by omega) _).mpr c_9
      refine lv_iconst (v := (nI 1)) hx hb dX6_noTopic_12 (by decide) ?_
      refine lv_goto (tgt := 17) hx hb dX6_noTopic_13 (by decide) ?_
      exact W.zret (v := (nI 1)) hx hb hr rfl (fun t ht hW => ⟨(nI 1), rfl, (bP_1 (by omega)), ht⟩) (fun q h => nomatch h) dX6_noTopic_17

set_option maxHeartbeats 4000000 in
set_option maxRecDepth 100000 in
/-- model isRest -/
theorem kX6_isRest (l : Launch) {D : va_G} {cy ad : Nat → Nat} {n : Nat} {M : Mm} (hn : 154 ≤ n) {x : Int32} : Met l yX6_isRest wsX6_isRest ({ frames := 0, cells := 0, slots := 0, locals := 0 }) (va_Pc [.ref (ad 137), .int x] (RO D cy (wd cy ad n M ++ []))) (vp_Si (fun r => bP (isE x) r)) 0 0 (fun _ => False) := by
  refine Met.ofW (cc := cX6_isRest) (maxL := 2) (ret := (some .boolean)) (by decide +kernel) rfl ?_
  intro p e s m args below meth c s₁ B hml hv
  obtain ⟨rfl, hP, hE⟩ := hv
  have hx := B.exec
  have hb := B.bytes
  have hr := B.returns
  have hts := atoms_spec (ws := wsX6_isRest) B.pre
  have hown : s.vm.findClass RX6 = some m.cls := findClass_of_methodNamed B.named
  have hlocks := B.notSynchronized
  have hl := lv_entry ([.ref (ad 137), .int x]) (n := 2) (Nat.le_of_ble_eq_true rfl)
  rw [lg_entry_eq]
  generalize (lg_sl ([.ref (ad 137), .int x]) ++ List.replicate (2 - (lg_sl ([.ref (ad 137), .int x])).length) Slot.unset).toArray = ls at hl ⊢
  have hl : lv_has ls 2 [(0, .ref (ad 137)), (1, .int x)] := hl
  refine lv_iload_n hx hb dX6_isRest_0 rfl (lv_at hl 1 rfl) ?_
  refine lv_if_lt (tgt := 15) hx hb dX6_isRest_1 (by decide) (fun c_1 => ?_) (fun c_1 => ?_)
  · have c_1 := (o_lt0 _).mp c_1
    refine lv_iconst (v := (nI 0)) hx hb dX6_isRest_15 (by decide) ?_
    exact W.zret (v := (nI 0)) hx hb hr rfl (fun t ht hW => ⟨(nI 0), rfl, (bP_0 (fun h => by have := h.1; have := h.2; omega)), ht⟩) (fun q h => nomatch h) dX6_isRest_16
  · have c_1 := mt (o_lt0 _).mpr c_1
    refine lv_iload_n hx hb dX6_isRest_4 rfl (lv_at hl 1 rfl) ?_
    refine lv_sipush (v := (nI 1013)) hx hb dX6_isRest_5 (by decide) ?_
    refine lv_icmp_ge (tgt := 15) hx hb dX6_isRest_8 (by decide) (fun c_8 => ?_) (fun c_8 => ?_)
    · have c_8 := (o_le (by omega) _).mp c_8
      refine lv_iconst (v := (nI 0)) hx hb dX6_isRest_15 (by decide) ?_
      exact W.zret (v := (nI 0)) hx hb hr rfl (fun t ht hW => ⟨(nI 0), rfl, (bP_0 (fun h => by have := h.1; have := h.2; omega)), ht⟩) (fun q h => nomatch h) dX6_isRest_16
    · have c_8 := mt (o_le (by omega) _).mpr c_8
      refine lv_iconst (v := (nI 1)) hx hb dX6_isRest_11 (by decide) ?_
      refine lv_goto (tgt := 16) hx hb dX6_isRest_12 (by decide) ?_
      exact W.zret (v := (nI 1)) hx hb hr rfl (fun t ht hW => ⟨(nI 1), rfl, (bP_1 ⟨by omega, by omega⟩), ht⟩) (fun q h => nomatch h) dX6_isRest_16

set_option maxHeartbeats 4000000 in
set_option maxRecDepth 100000 in
/-- model put -/
theorem kX6_put (l : Launch) {D : va_G} {cy ad : Nat → Nat} {n : Nat} {M : Mm} {A : Nat → Prop} (hD : ∀ M, va_D A (wd cy ad n M ++ [])) (hn : 154 ≤ n) {b : Nat} {x : Int32} (hb0 : M 137 18 = nI b) (hb1 : b < 200) : Met l yX6_put wsX6_put ({ frames := 0, cells := 0, slots := 0, locals := 0 }) (va_Pc [.ref (ad 137), .int x] (RW D cy (wd cy ad n M ++ []) A)) (va_Qv (S := Mm) (fun u => u = st (st M 151 b x) 137 18 (nI (b + 1))) (fun u t => va_P D vwCl (wd cy ad n u ++ []) t.heap) A) 0 0 A := by
  refine Met.ofW (cc := cX6_put) (maxL := 2) (ret := none) (by decide +kernel) rfl ?_
  intro p e s m args below meth c s₁ B hml hv
  obtain ⟨rfl, hP, hE, hA⟩ := hv
  have hx := B.exec
  have hb := B.bytes
  have hr := B.returns
  have hts := atoms_spec (ws := wsX6_put) B.pre
  have hown : s.vm.findClass RX6 = some m.cls := findClass_of_methodNamed B.named
  have hlocks := B.notSynchronized
  have hf147 : (Cond.fieldLink RX6 147 "RingPetitionModel" "bundled" "I").before #[.ref (ad 137), .int x] s = true := hts _ (by decide +kernel)
  have hf54 : (Cond.fieldLink RX6 54 "RingPetitionModel" "row" "[I").before #[.ref (ad 137), .int x] s = true := hts _ (by decide +kernel)
  have hin_RX6 : ∀ w ∈ u_ws RX6 TX6 27, w ∈ wsX6_put := by decide +kernel
  have hS : va_S A s.heap s.heap [] := va_S.rf
  have hl := lv_entry ([.ref (ad 137), .int x]) (n := 2) (Nat.le_of_ble_eq_true rfl)
  rw [lg_entry_eq]
  generalize (lg_sl ([.ref (ad 137), .int x]) ++ List.replicate (2 - (lg_sl ([.ref (ad 137), .int x])).length) Slot.unset).toArray = ls at hl ⊢
  have hl : lv_has ls 2 [(0, .ref (ad 137)), (1, .int x)] := hl
  refine lv_aload_n hx hb dX6_put_0 rfl (lv_at hl 0 rfl) ?_
  refine va_get (D := D) (ci := 5) (v := .ref (ad 151)) (C := RX6) (T := TX6) (N := 27) hx hb hts hin_RX6 hown hE.1 hP 137 (wd_at (M := M) (show 137 < n by omega) ((g_137 cy ad) _)) rfl 19 (by decide) hf54 (fun _ h9 => h9) rfl dX6_put_1 ?_
  refine lv_aload_n hx hb dX6_put_4 rfl (lv_at hl 0 rfl) ?_
  refine va_get (D := D) (ci := 5) (v := .int (M 137 18)) (C := RX6) (T := TX6) (N := 27) hx hb hts hin_RX6 hown hE.1 hP 137 (wd_at (M := M) (show 137 < n by omega) ((g_137 cy ad) _)) rfl 18 (by decide) hf147 (fun _ h9 => h9) rfl dX6_put_5 ?_
  refine wr_top (y := (nI b)) hb0 ?_
  refine lv_iload_n hx hb dX6_put_8 rfl (lv_at hl 1 rfl) ?_
  refine wr_ast (cy := cy) (ad := ad) (ex := []) hx hb hE.1 hP hD hS 151 (show 151 < n by omega) (g_151 cy ad) b rfl (by omega) (by decide) dX6_put_9 (fun H locs hP hS => ?_)
  refine lv_aload_n hx hb dX6_put_10 rfl (lv_at hl 0 rfl) ?_
  refine lv_dup hx hb dX6_put_11 rfl ?_
  refine va_get (D := D) (ci := 5) (v := .int ((st M 151 b x) 137 18)) (C := RX6) (T := TX6) (N := 27) hx hb hts hin_RX6 hown hE.1 hP 137 (wd_at (M := (st M 151 b x)) (show 137 < n by omega) ((g_137 cy ad) _)) rfl 18 (by decide) hf147 (fun _ h9 => h9) rfl dX6_put_12 ?_
  refine wr_top (y := (M 137 18)) (by rw [st_r _ _ _ (by decide)]) ?_
  refine wr_top (y := (nI b)) hb0 ?_
  refine lv_iconst (v := (nI 1)) hx hb dX6_put_15 (by decide) ?_
  refine lv_iadd hx hb dX6_put_16 ?_
  refine wr_top (y := (nI (b + 1))) (nI_add _ _) ?_
  refine wr_put (cy := cy) (ad := ad) (ex := []) (ci := 5) (C := RX6) (T := TX6) (N := 27) (ty := .int) hx hb hts hin_RX6 tyX6 tyX6_ok nmX6 hown hE.1 hP hD hS 137 (show 137 < n by omega) ((g_137 cy ad) _) rfl 18 (by decide) hf147 (fun _ h9 => h9) rfl (by decide +kernel) rfl rfl (by simp) (((g_137 cy ad) _).trans (by simp [st_at])) dX6_put_17 (fun H locs hP hS => ?_)
  exact W.vret hx hb hr (fun t ht hW => ⟨⟨(st (st M 151 b x) 137 18 (nI (b + 1))), rfl, rfl, (by show va_P D vwCl _ t.heap; rw [ht]; exact hP)⟩, hS.F ht⟩) hS.2.2 dX6_put_20

set_option maxHeartbeats 4000000 in
set_option maxRecDepth 100000 in
/-- model nonce -/
theorem kX6_nonce (l : Launch) {D : va_G} {cy ad : Nat → Nat} {n : Nat} {M : Mm} {A : Nat → Prop} (hD : ∀ M, va_D A (wd cy ad n M ++ [])) (hn : 154 ≤ n) {x : Int32} {i : Nat} : Met l yX6_nonce wsX6_nonce ({ frames := 1, cells := 0, slots := 0, locals := 21 }) (va_Pc [.ref (ad 137), .int x, .int (nI i)] (RW D cy (wd cy ad n M ++ []) A)) (va_Qi (S := Mm) (fun r u => r = nI (ncN x (M 137 23) (M 137 24) i) ∧ mxP M u) (fun u t => va_P D vwCl (wd cy ad n u ++ []) t.heap) A) 0 0 A := by
  refine Met.ofW (cc := cX6_nonce) (maxL := 3) (ret := (some .int)) (by decide +kernel) rfl ?_
  intro p e s m args below meth c s₁ B hml hv
  obtain ⟨rfl, hP, hE, hA⟩ := hv
  have hx := B.exec
  have hb := B.bytes
  have hr := B.returns
  have hts := atoms_spec (ws := wsX6_nonce) B.pre
  have hown : s.vm.findClass RX6 = some m.cls := findClass_of_methodNamed B.named
  have hlocks := B.notSynchronized
  have hf66 : (Cond.fieldLink RX6 66 "RingPetitionModel" "mixed" "I").before #[.ref (ad 137), .int x, .int (nI i)] s = true := hts _ (by decide +kernel)
  have hf81 : (Cond.fieldLink RX6 81 "RingPetitionModel" "value" "I").before #[.ref (ad 137), .int x, .int (nI i)] s = true := hts _ (by decide +kernel)
  have hf84 : (Cond.fieldLink RX6 84 "RingPetitionModel" "motion" "I").before #[.ref (ad 137), .int x, .int (nI i)] s = true := hts _ (by decide +kernel)
  have hin_RX6 : ∀ w ∈ u_ws RX6 TX6 27, w ∈ wsX6_nonce := by decide +kernel
  have hS : va_S A s.heap s.heap [] := va_S.rf
  have hl := lv_entry ([.ref (ad 137), .int x, .int (nI i)]) (n := 3) (Nat.le_of_ble_eq_true rfl)
  rw [lg_entry_eq]
  generalize (lg_sl ([.ref (ad 137), .int x, .int (nI i)]) ++ List.replicate (3 - (lg_sl ([.ref (ad 137), .int x, .int (nI i)])).length) Slot.unset).toArray = ls at hl ⊢
  have hl : lv_has ls 3 [(0, .ref (ad 137)), (1, .int x), (2, .int (nI i))] := hl
  refine lv_aload_n hx hb dX6_nonce_0 rfl (lv_at hl 0 rfl) ?_
  refine lv_bipush (v := (nI 17)) hx hb dX6_nonce_1 (by decide) ?_
  refine wr_put (cy := cy) (ad := ad) (ex := []) (ci := 5) (C := RX6) (T := TX6) (N := 27) (ty := .int) hx hb hts hin_RX6 tyX6 tyX6_ok nmX6 hown hE.1 hP hD hS 137 (show 137 < n by omega) ((g_137 cy ad) _) rfl 26 (by decide) hf66 (fun _ h9 => h9) rfl (by decide +kernel) rfl rfl (by simp) (((g_137 cy ad) _).trans (by simp [st_at])) dX6_nonce_3 (fun H locs hP hS => ?_)
  refine lv_aload_n hx hb dX6_nonce_6 rfl (lv_at hl 0 rfl) ?_
  refine lv_iload_n hx hb dX6_nonce_7 rfl (lv_at hl 1 rfl) ?_
  refine va_callv (va_runV (As := [.int x]) (rest := []) ⟨hx, hb, hml, hown, hts⟩ (kX6_mix l hD hn (w := (nI 17)) (st_s _ _ _ _)) (cwV 1 hts gX6_nonce_X6_mix rfl rfl rfl (by decide +kernel) ⟨Nat.le_of_ble_eq_true rfl, Nat.le_of_ble_eq_true rfl⟩) (rw_pv (ci := 5) (q := (RX6, TX6, 27)) hE hP hS hA rfl (wd_at (M := (st M 137 26 (nI 17))) (show 137 < n by omega) ((g_137 cy ad) _))) rfl rfl hl.1 rfl (lv_room (Nat.le_of_ble_eq_true rfl)) dX6_nonce_8 ⟨Nat.le_of_ble_eq_true rfl, Nat.le_of_ble_eq_true rfl⟩) hS (fun q _ h => h) (fun q h => h) (fun u_8 t H1 locs ht hvm hr_8 hB_8 hz1 hk1 hS => ?_)
  have hP : va_P D vwCl (wd cy ad n u_8 ++ []) H1 := by rw [← ht]; exact hB_8
  clear hB_8 ht hvm hz1 hk1
  generalize H1 = H at hP hS ⊢
  rw [st_st] at hr_8
  subst hr_8
  refine lv_aload_n hx hb dX6_nonce_11 rfl (lv_at hl 0 rfl) ?_
  refine lv_aload_n hx hb dX6_nonce_12 rfl (lv_at hl 0 rfl) ?_
  refine va_get (D := D) (ci := 5) (v := .int ((st M 137 26 (mxI (nI 17) x)) 137 23)) (C := RX6) (T := TX6) (N := 27) hx hb hts hin_RX6 hown hE.1 hP 137 (wd_at (M := (st M 137 26 (mxI (nI 17) x))) (show 137 < n by omega) ((g_137 cy ad) _)) rfl 23 (by decide) hf81 (fun _ h9 => h9) rfl dX6_nonce_13 ?_
  refine wr_top (y := (M 137 23)) (st_c _ _ _ (by decide)) ?_
  refine va_callv (va_runV (As := [.int (M 137 23)]) (rest := []) ⟨hx, hb, hml, hown, hts⟩ (kX6_mix l hD hn (w := (mxI (nI 17) x)) (st_s _ _ _ _)) (cwV 1 hts gX6_nonce_X6_mix rfl rfl rfl (by decide +kernel) ⟨Nat.le_of_ble_eq_true rfl, Nat.le_of_ble_eq_true rfl⟩) (rw_pv (ci := 5) (q := (RX6, TX6, 27)) hE hP hS hA rfl (wd_at (M := (st M 137 26 (mxI (nI 17) x))) (show 137 < n by omega) ((g_137 cy ad) _))) rfl rfl hl.1 rfl (lv_room (Nat.le_of_ble_eq_true rfl)) dX6_nonce_16 ⟨Nat.le_of_ble_eq_true rfl, Nat.le_of_ble_eq_true rfl⟩) hS (fun q _ h => h) (fun q h => h) (fun u_16 t H1 locs ht hvm hr_16 hB_16 hz1 hk1 hS => ?_)
  have hP : va_P D vwCl (wd cy ad n u_16 ++ []) H1 := by rw [← ht]; exact hB_16
  clear hB_16 ht hvm hz1 hk1
  generalize H1 = H at hP hS ⊢
  rw [st_st] at hr_16
  subst hr_16
  refine lv_aload_n hx hb dX6_nonce_19 rfl (lv_at hl 0 rfl) ?_
  refine lv_aload_n hx hb dX6_nonce_20 rfl (lv_at hl 0 rfl) ?_
  refine va_get (D := D) (ci := 5) (v := .int ((st M 137 26 (mxI (mxI (nI 17) x) (M 137 23))) 137 24)) (C := RX6) (T := TX6) (N := 27) hx hb hts hin_RX6 hown hE.1 hP 137 (wd_at (M := (st M 137 26 (mxI (mxI (nI 17) x) (M 137 23)))) (show 137 < n by omega) ((g_137 cy ad) _)) rfl 24 (by decide) hf84 (fun _ h9 => h9) rfl dX6_nonce_21 ?_
  refine wr_top (y := (M 137 24)) (st_c _ _ _ (by decide)) ?_
  refine va_callv (va_runV (As := [.int (M 137 24)]) (rest := []) ⟨hx, hb, hml, hown, hts⟩ (kX6_mix l hD hn (w := (mxI (mxI (nI 17) x) (M 137 23))) (st_s _ _ _ _)) (cwV 1 hts gX6_nonce_X6_mix rfl rfl rfl (by decide +kernel) ⟨Nat.le_of_ble_eq_true rfl, Nat.le_of_ble_eq_true rfl⟩) (rw_pv (ci := 5) (q := (RX6, TX6, 27)) hE hP hS hA rfl (wd_at (M := (st M 137 26 (mxI (mxI (nI 17) x) (M 137 23)))) (show 137 < n by omega) ((g_137 cy ad) _))) rfl rfl hl.1 rfl (lv_room (Nat.le_of_ble_eq_true rfl)) dX6_nonce_24 ⟨Nat.le_of_ble_eq_true rfl, Nat.le_of_ble_eq_true rfl⟩) hS (fun q _ h => h) (fun q h => h) (fun u_24 t H1 locs ht hvm hr_24 hB_24 hz1 hk1 hS => ?_)
  have hP : va_P D vwCl (wd cy ad n u_24 ++ []) H1 := by rw [← ht]; exact hB_24
  clear hB_24 ht hvm hz1 hk1
  generalize H1 = H at hP hS ⊢
  rw [st_st] at hr_24
  subst hr_24
  refine lv_aload_n hx hb dX6_nonce_27 rfl (lv_at hl 0 rfl) ?_
  refine lv_iload_n hx hb dX6_nonce_28 rfl (lv_at hl 2 rfl) ?_
  refine va_callv (va_runV (As := [.int (nI i)]) (rest := []) ⟨hx, hb, hml, hown, hts⟩ (kX6_mix l hD hn (w := (mxI (mxI (mxI (nI 17) x) (M 137 23)) (M 137 24))) (st_s _ _ _ _)) (cwV 1 hts gX6_nonce_X6_mix rfl rfl rfl (by decide +kernel) ⟨Nat.le_of_ble_eq_true rfl, Nat.le_of_ble_eq_true rfl⟩) (rw_pv (ci := 5) (q := (RX6, TX6, 27)) hE hP hS hA rfl (wd_at (M := (st M 137 26 (mxI (mxI (mxI (nI 17) x) (M 137 23)) (M 137 24)))) (show 137 < n by omega) ((g_137 cy ad) _))) rfl rfl hl.1 rfl (lv_room (Nat.le_of_ble_eq_true rfl)) dX6_nonce_29 ⟨Nat.le_of_ble_eq_true rfl, Nat.le_of_ble_eq_true rfl⟩) hS (fun q _ h => h) (fun q h => h) (fun u_29 t H1 locs ht hvm hr_29 hB_29 hz1 hk1 hS => ?_)
  have hP : va_P D vwCl (wd cy ad n u_29 ++ []) H1 := by rw [← ht]; exact hB_29
  clear hB_29 ht hvm hz1 hk1
  generalize H1 = H at hP hS ⊢
  rw [st_st] at hr_29
  subst hr_29
  refine lv_aload_n hx hb dX6_nonce_32 rfl (lv_at hl 0 rfl) ?_
  refine vp_callSi (W.runV (As := []) (rest := []) ⟨hx, hb, hml, hown, hts⟩ (kX6_rest l hn (w := (mxI (mxI (mxI (mxI (nI 17) x) (M 137 23)) (M 137 24)) (nI i))) (st_s _ _ _ _)) (cwV 0 hts gX6_nonce_X6_rest rfl rfl rfl (by decide +kernel) ⟨Nat.le_of_ble_eq_true rfl, Nat.le_of_ble_eq_true rfl⟩) (ro_pv (ci := 5) (q := (RX6, TX6, 27)) hE hP rfl (wd_at (M := (st M 137 26 (mxI (mxI (mxI (mxI (nI 17) x) (M 137 23)) (M 137 24)) (nI i)))) (show 137 < n by omega) ((g_137 cy ad) _))) rfl rfl hl.1 rfl (lv_room (Nat.le_of_ble_eq_true rfl)) dX6_nonce_33 ⟨Nat.le_of_ble_eq_true rfl, Nat.le_of_ble_eq_true rfl⟩) (fun r_33 hr_33 => ?_)
  subst hr_33
  exact W.iret (v := (nI (rsN (mxI (mxI (mxI (mxI (nI 17) x) (M 137 23)) (M 137 24)) (nI i)) 1013))) hx hb hr (fun t ht hW => ⟨⟨(nI (rsN (mxI (mxI (mxI (mxI (nI 17) x) (M 137 23)) (M 137 24)) (nI i)) 1013)), (st M 137 26 (mxI (mxI (mxI (mxI (nI 17) x) (M 137 23)) (M 137 24)) (nI i))), rfl, ⟨rfl, mx_st _ _⟩, (by show va_P D vwCl _ t.heap; rw [ht]; exact hP)⟩, hS.F ht⟩) hS.2.2 dX6_nonce_36

set_option maxHeartbeats 4000000 in
set_option maxRecDepth 100000 in
/-- model hasTag -/
theorem kX6_hasTag (l : Launch) {D : va_G} {cy ad : Nat → Nat} {n : Nat} {M : Mm} (hn : 154 ≤ n) {tq b : Nat} {tag : Int32} (ht6 : tq < 6) (hb8 : b ≤ 8) : Met l yX6_hasTag wsX6_hasTag ({ frames := 0, cells := 0, slots := 0, locals := 0 }) (va_Pc [.ref (ad 137), .int (nI tq), .int tag, .int (nI b)] (RO D cy (wd cy ad n M ++ []))) (vp_Si (fun r => bP (∃ k, k < b ∧ M 149 (8 * (8 * tq + k) + 1) = tag) r)) 0 0 (fun _ => False) := by
  refine Met.ofW (cc := cX6_hasTag) (maxL := 6) (ret := (some .boolean)) (by decide +kernel) rfl ?_
  intro p e s m args below meth c s₁ B hml hv
  obtain ⟨rfl, hP, hE⟩ := hv
  have hx := B.exec
  have hb := B.bytes
  have hr := B.returns
  have hts := atoms_spec (ws := wsX6_hasTag) B.pre
  have hown : s.vm.findClass RX6 = some m.cls := findClass_of_methodNamed B.named
  have hlocks := B.notSynchronized
  have hf44 : (Cond.fieldLink RX6 44 "RingPetitionModel" "signed" "[I").before #[.ref (ad 137), .int (nI tq), .int tag, .int (nI b)] s = true := hts _ (by decide +kernel)
  have hin_RX6 : ∀ w ∈ u_ws RX6 TX6 27, w ∈ wsX6_hasTag := by decide +kernel
  have hl := lv_entry ([.ref (ad 137), .int (nI tq), .int tag, .int (nI b)]) (n := 6) (Nat.le_of_ble_eq_true rfl)
  rw [lg_entry_eq]
  generalize (lg_sl ([.ref (ad 137), .int (nI tq), .int tag, .int (nI b)]) ++ List.replicate (6 - (lg_sl ([.ref (ad 137), .int (nI tq), .int tag, .int (nI b)])).length) Slot.unset).toArray = ls at hl ⊢
  have hl : lv_has ls 6 [(0, .ref (ad 137)), (1, .int (nI tq)), (2, .int tag), (3, .int (nI b))] := hl
  refine lv_iconst (v := (nI 0)) hx hb dX6_hasTag_0 (by decide) ?_
  refine lv_istore (lv' := [(4, .int (nI 0)), (0, .ref (ad 137)), (1, .int (nI tq)), (2, .int tag), (3, .int (nI b))]) hx hb dX6_hasTag_1 hl (by decide) rfl (fun ls hl => ?_)
  refine lv_iconst (v := (nI 0)) hx hb dX6_hasTag_3 (by decide) ?_
  refine lv_istore (lv' := [(5, .int (nI 0)), (4, .int (nI 0)), (0, .ref (ad 137)), (1, .int (nI tq)), (2, .int tag), (3, .int (nI b))]) hx hb dX6_hasTag_4 hl (by decide) rfl (fun ls hl => ?_)
  refine wloopR (fun kq (xq : Nat × Int32) ls => match xq with | (i, hv) => kq = b - i ∧ (i ≤ b ∧ bP (∃ k, k < i ∧ M 149 (8 * (8 * tq + k) + 1) = tag) hv) ∧ lv_has ls 6 [(5, .int (nI i)), (4, .int hv), (0, .ref (ad 137)), (1, .int (nI tq)), (2, .int tag), (3, .int (nI b))]) (fun k6 x6 ls h6 ih6 => ?_) _ (0, 0) ls ⟨rfl, ⟨Nat.zero_le _, bP_0 (fun h => by obtain ⟨k, hk, _⟩ := h; exact absurd hk (Nat.not_lt_zero k))⟩, lv_sub hl [0, 1, 2, 3, 4, 5] rfl⟩
  obtain ⟨i, hv⟩ := x6
  obtain ⟨hk6, hI, hl⟩ := h6
  refine lv_iload hx hb dX6_hasTag_6 (lv_at hl 0 rfl) ?_
  refine lv_iload_n hx hb dX6_hasTag_8 rfl (lv_at hl 5 rfl) ?_
  refine lv_icmp_ge (tgt := 51) hx hb dX6_hasTag_9 (by decide) (fun c_9 => ?_) (fun c_9 => ?_)
  · have c_9 := (nI_leI (by omega) (by omega)).mp c_9
    rcases hI.2 with ⟨hy_g, hv_g⟩ | ⟨hy_g, hv_g⟩
    · subst hv_g
      refine lv_iload hx hb dX6_hasTag_51 (lv_at hl 1 rfl) ?_
      exact W.zret (v := 1) hx hb hr rfl (fun t ht hW => ⟨1, rfl, (bP_1 (by obtain ⟨k, hk, hk2⟩ := hy_g; exact ⟨k, by omega, hk2⟩)), ht⟩) (fun q h => nomatch h) dX6_hasTag_53
    · subst hv_g
      refine lv_iload hx hb dX6_hasTag_51 (lv_at hl 1 rfl) ?_
      exact W.zret (v := 0) hx hb hr rfl (fun t ht hW => ⟨0, rfl, (bP_0 (fun h => by obtain ⟨k, hk, hk2⟩ := h; exact hy_g ⟨k, by omega, hk2⟩)), ht⟩) (fun q h => nomatch h) dX6_hasTag_53
  · have c_9 := mt (nI_leI (by omega) (by omega)).mpr c_9
    rcases hI.2 with ⟨hy_f, hv_f⟩ | ⟨hy_f, hv_f⟩
    · subst hv_f
      refine lv_iload hx hb dX6_hasTag_12 (lv_at hl 1 rfl) ?_
      refine lv_if_ne (tgt := 38) hx hb dX6_hasTag_14 (by decide) (fun c_14 => ?_) (fun c_14 => ?_)
      · have c_14 := mt (o_eq0 _).mpr c_14
        refine lv_iconst (v := (nI 1)) hx hb dX6_hasTag_38 (by decide) ?_
        refine lv_goto (tgt := 43) hx hb dX6_hasTag_39 (by decide) ?_
        refine lv_istore (lv' := [(4, .int (nI 1)), (5, .int (nI i)), (0, .ref (ad 137)), (1, .int (nI tq)), (2, .int tag), (3, .int (nI b))]) hx hb dX6_hasTag_43 hl (by decide) rfl (fun ls hl => ?_)
        refine lv_iinc (v := (nI (i + 1))) (lv' := [(5, .int (nI (i + 1))), (4, .int (nI 1)), (0, .ref (ad 137)), (1, .int (nI tq)), (2, .int tag), (3, .int (nI b))]) hx hb dX6_hasTag_45 hl (k := 1) rfl (nI_1 _) (by decide) rfl (fun ls hl => ?_)
        refine lv_goto (tgt := 6) hx hb dX6_hasTag_48 (by decide) ?_
        exact ih6 _ (i + 1, (nI 1)) _ (by omega) ⟨rfl, ⟨by omega, bP_1 (by obtain ⟨k, hk, hk2⟩ := hy_f; exact ⟨k, by omega, hk2⟩)⟩, (lv_sub hl [0, 1, 2, 3, 4, 5] rfl)⟩
      · exact absurd c_14 (by decide)
    · subst hv_f
      refine lv_iload hx hb dX6_hasTag_12 (lv_at hl 1 rfl) ?_
      refine lv_if_ne (tgt := 38) hx hb dX6_hasTag_14 (by decide) (fun c_14 => ?_) (fun c_14 => ?_)
      · exact absurd c_14 (by decide)
      · have c_14 := (o_eq0 _).mp c_14
        refine lv_aload_n hx hb dX6_hasTag_17 rfl (lv_at hl 2 rfl) ?_
        refine va_get (D := D) (ci := 5) (v := .ref (ad 149)) (C := RX6) (T := TX6) (N := 27) hx hb hts hin_RX6 hown hE.1 hP 137 (wd_at (M := M) (show 137 < n by omega) ((g_137 cy ad) _)) rfl 15 (by decide) hf44 (fun _ h9 => h9) rfl dX6_hasTag_18 ?_
        refine lv_bipush (v := (nI 8)) hx hb dX6_hasTag_21 (by decide) ?_
        refine lv_bipush (v := (nI 8)) hx hb dX6_hasTag_23 (by decide) ?_
        refine lv_iload_n hx hb dX6_hasTag_25 rfl (lv_at hl 3 rfl) ?_
        refine lv_imul hx hb dX6_hasTag_26 ?_
        refine wr_top (y := (nI (8 * tq))) (pk_mul _ _) ?_
        refine lv_iload hx hb dX6_hasTag_27 (lv_at hl 0 rfl) ?_
        refine lv_iadd hx hb dX6_hasTag_29 ?_
        refine wr_top (y := (nI ((8 * tq) + i))) (nI_add _ _) ?_
        refine lv_imul hx hb dX6_hasTag_30 ?_
        refine wr_top (y := (nI (8 * ((8 * tq) + i)))) (pk_mul _ _) ?_
        refine lv_iconst (v := (nI 1)) hx hb dX6_hasTag_31 (by decide) ?_
        refine lv_iadd hx hb dX6_hasTag_32 ?_
        refine wr_top (y := (nI ((8 * ((8 * tq) + i)) + 1))) (nI_add _ _) ?_
        refine wr_ald (cy := cy) (ad := ad) (ex := []) hx hb hE.1 hP 149 (show 149 < n by omega) ((g_149 cy ad) _) ((8 * ((8 * tq) + i)) + 1) rfl (by omega) (by decide) dX6_hasTag_33 ?_
        refine lv_iload_n hx hb dX6_hasTag_34 rfl (lv_at hl 4 rfl) ?_
        refine lv_icmp_ne (tgt := 42) hx hb dX6_hasTag_35 (by decide) (fun c_35 => ?_) (fun c_35 => ?_)
        · refine lv_iconst (v := (nI 0)) hx hb dX6_hasTag_42 (by decide) ?_
          refine lv_istore (lv' := [(4, .int (nI 0)), (5, .int (nI i)), (0, .ref (ad 137)), (1, .int (nI tq)), (2, .int tag), (3, .int (nI b))]) hx hb dX6_hasTag_43 hl (by decide) rfl (fun ls hl => ?_)
          refine lv_iinc (v := (nI (i + 1))) (lv' := [(5, .int (nI (i + 1))), (4, .int (nI 0)), (0, .ref (ad 137)), (1, .int (nI tq)), (2, .int tag), (3, .int (nI b))]) hx hb dX6_hasTag_45 hl (k := 1) rfl (nI_1 _) (by decide) rfl (fun ls hl => ?_)
          refine lv_goto (tgt := 6) hx hb dX6_hasTag_48 (by decide) ?_
          exact ih6 _ (i + 1, (nI 0)) _ (by omega) ⟨rfl, ⟨by omega, bP_0 (fun h => by obtain ⟨k, hk, hk2⟩ := h; rcases Nat.lt_or_ge k i with h9 | h9 <;> first | exact hy_f ⟨k, h9, hk2⟩ | (rw [show k = i by omega] at hk2; exact c_35 hk2))⟩, (lv_sub hl [0, 1, 2, 3, 4, 5] rfl)⟩
        · refine lv_iconst (v := (nI 1)) hx hb dX6_hasTag_38 (by decide) ?_
          refine lv_goto (tgt := 43) hx hb dX6_hasTag_39 (by decide) ?_
          refine lv_istore (lv' := [(4, .int (nI 1)), (5, .int (nI i)), (0, .ref (ad 137)), (1, .int (nI tq)), (2, .int tag), (3, .int (nI b))]) hx hb dX6_hasTag_43 hl (by decide) rfl (fun ls hl => ?_)
          refine lv_iinc (v := (nI (i + 1))) (lv' := [(5, .int (nI (i + 1))), (4, .int (nI 1)), (0, .ref (ad 137)), (1, .int (nI tq)), (2, .int tag), (3, .int (nI b))]) hx hb dX6_hasTag_45 hl (k := 1) rfl (nI_1 _) (by decide) rfl (fun ls hl => ?_)
          refine lv_goto (tgt := 6) hx hb dX6_hasTag_48 (by decide) ?_
          exact ih6 _ (i + 1, (nI 1)) _ (by omega) ⟨rfl, ⟨by omega, bP_1 ⟨i, by omega, c_35⟩⟩, (lv_sub hl [0, 1, 2, 3, 4, 5] rfl)⟩

set_option maxHeartbeats 4000000 in
set_option maxRecDepth 100000 in
/-- model look -/
theorem kX6_look (l : Launch) {D : va_G} {cy ad : Nat → Nat} {n : Nat} {M : Mm} {A : Nat → Prop} (hD : ∀ M, va_D A (wd cy ad n M ++ [])) (hn : 154 ≤ n) {z rq tq : Nat} {mo : Int32} (hz : M 141 rq = nI z) (hz6 : z ≤ 6) (hr8 : rq < 8) (ht6 : tq < 6) : Met l yX6_look wsX6_look ({ frames := 0, cells := 0, slots := 0, locals := 0 }) (va_Pc [.ref (ad 137), .int (nI rq), .int (nI tq), .int mo] (RW D cy (wd cy ad n M ++ []) A)) (va_Qv (S := Mm) (fun u => lkP M u z rq tq mo) (fun u t => va_P D vwCl (wd cy ad n u ++ []) t.heap) A) 0 0 A := by
  refine Met.ofW (cc := cX6_look) (maxL := 5) (ret := none) (by decide +kernel) rfl ?_
  intro p e s m args below meth c s₁ B hml hv
  obtain ⟨rfl, hP, hE, hA⟩ := hv
  have hx := B.exec
  have hb := B.bytes
  have hr := B.returns
  have hts := atoms_spec (ws := wsX6_look) B.pre
  have hown : s.vm.findClass RX6 = some m.cls := findClass_of_methodNamed B.named
  have hlocks := B.notSynchronized
  have hf19 : (Cond.fieldLink RX6 19 "RingPetitionModel" "ringSize" "[I").before #[.ref (ad 137), .int (nI rq), .int (nI tq), .int mo] s = true := hts _ (by decide +kernel)
  have hf22 : (Cond.fieldLink RX6 22 "RingPetitionModel" "ringKeys" "[I").before #[.ref (ad 137), .int (nI rq), .int (nI tq), .int mo] s = true := hts _ (by decide +kernel)
  have hf25 : (Cond.fieldLink RX6 25 "RingPetitionModel" "values" "[I").before #[.ref (ad 137), .int (nI rq), .int (nI tq), .int mo] s = true := hts _ (by decide +kernel)
  have hf28 : (Cond.fieldLink RX6 28 "RingPetitionModel" "bases" "[I").before #[.ref (ad 137), .int (nI rq), .int (nI tq), .int mo] s = true := hts _ (by decide +kernel)
  have hf57 : (Cond.fieldLink RX6 57 "RingPetitionModel" "y" "[I").before #[.ref (ad 137), .int (nI rq), .int (nI tq), .int mo] s = true := hts _ (by decide +kernel)
  have hf78 : (Cond.fieldLink RX6 78 "RingPetitionModel" "n" "I").before #[.ref (ad 137), .int (nI rq), .int (nI tq), .int mo] s = true := hts _ (by decide +kernel)
  have hf81 : (Cond.fieldLink RX6 81 "RingPetitionModel" "value" "I").before #[.ref (ad 137), .int (nI rq), .int (nI tq), .int mo] s = true := hts _ (by decide +kernel)
  have hf84 : (Cond.fieldLink RX6 84 "RingPetitionModel" "motion" "I").before #[.ref (ad 137), .int (nI rq), .int (nI tq), .int mo] s = true := hts _ (by decide +kernel)
  have hf95 : (Cond.fieldLink RX6 95 "RingPetitionModel" "base" "I").before #[.ref (ad 137), .int (nI rq), .int (nI tq), .int mo] s = true := hts _ (by decide +kernel)
  have hin_RX6 : ∀ w ∈ u_ws RX6 TX6 27, w ∈ wsX6_look := by decide +kernel
  have hS : va_S A s.heap s.heap [] := va_S.rf
  have hl := lv_entry ([.ref (ad 137), .int (nI rq), .int (nI tq), .int mo]) (n := 5) (Nat.le_of_ble_eq_true rfl)
  rw [lg_entry_eq]
  generalize (lg_sl ([.ref (ad 137), .int (nI rq), .int (nI tq), .int mo]) ++ List.replicate (5 - (lg_sl ([.ref (ad 137), .int (nI rq), .int (nI tq), .int mo])).length) Slot.unset).toArray = ls at hl ⊢
  have hl : lv_has ls 5 [(0, .ref (ad 137)), (1, .int (nI rq)), (2, .int (nI tq)), (3, .int mo)] := hl
  refine lv_aload_n hx hb dX6_look_0 rfl (lv_at hl 0 rfl) ?_
  refine lv_aload_n hx hb dX6_look_1 rfl (lv_at hl 0 rfl) ?_
  refine va_get (D := D) (ci := 5) (v := .ref (ad 141)) (C := RX6) (T := TX6) (N := 27) hx hb hts hin_RX6 hown hE.1 hP 137 (wd_at (M := M) (show 137 < n by omega) ((g_137 cy ad) _)) rfl 6 (by decide) hf19 (fun _ h9 => h9) rfl dX6_look_2 ?_
  refine lv_iload_n hx hb dX6_look_5 rfl (lv_at hl 1 rfl) ?_
  refine wr_ald (cy := cy) (ad := ad) (ex := []) hx hb hE.1 hP 141 (show 141 < n by omega) ((g_141 cy ad) _) rq rfl (by omega) (by decide) dX6_look_6 ?_
  refine wr_top (y := (nI z)) hz ?_
  refine wr_put (cy := cy) (ad := ad) (ex := []) (ci := 5) (C := RX6) (T := TX6) (N := 27) (ty := .int) hx hb hts hin_RX6 tyX6 tyX6_ok nmX6 hown hE.1 hP hD hS 137 (show 137 < n by omega) ((g_137 cy ad) _) rfl 20 (by decide) hf78 (fun _ h9 => h9) rfl (by decide +kernel) rfl rfl (by simp) (((g_137 cy ad) _).trans (by simp [st_at])) dX6_look_7 (fun H locs hP hS => ?_)
  refine lv_iconst (v := (nI 0)) hx hb dX6_look_10 (by decide) ?_
  refine lv_istore (lv' := [(4, .int (nI 0)), (0, .ref (ad 137)), (1, .int (nI rq)), (2, .int (nI tq)), (3, .int mo)]) hx hb dX6_look_11 hl (by decide) rfl (fun ls hl => ?_)
  refine wloopW (fun kq (xq : Nat × Mm) H locs ls => match xq with | (i, Mk) => kq = z - i ∧ (i ≤ z ∧ (∀ a, a ≠ 137 → a ≠ 152 → Mk a = M a) ∧ (∀ c, c ≠ 20 → Mk 137 c = M 137 c) ∧ Mk 137 20 = nI z ∧ ∀ j, j < i → Mk 152 j = M 142 (6 * rq + j)) ∧ va_P D vwCl (wd cy ad n Mk ++ []) H ∧ va_S A s.heap H locs ∧ lv_has ls 5 [(4, .int (nI i)), (0, .ref (ad 137)), (1, .int (nI rq)), (2, .int (nI tq)), (3, .int mo)]) (fun k13 x13 H locs ls h13 ih13 => ?_) _ (0, st M 137 20 (nI z)) _ _ ls ⟨rfl, ⟨Nat.zero_le _, fun a h1 _ => st_r _ _ _ h1, fun c hc => st_c _ _ _ hc, st_s _ _ _ _, fun j h => absurd h (Nat.not_lt_zero j)⟩, hP, hS, lv_sub hl [0, 1, 2, 3, 4] rfl⟩
  obtain ⟨i, Mk⟩ := x13
  obtain ⟨hk13, hI, hP, hS, hl⟩ := h13
  refine lv_iload hx hb dX6_look_13 (lv_at hl 0 rfl) ?_
  refine lv_aload_n hx hb dX6_look_15 rfl (lv_at hl 1 rfl) ?_
  refine va_get (D := D) (ci := 5) (v := .int (Mk 137 20)) (C := RX6) (T := TX6) (N := 27) hx hb hts hin_RX6 hown hE.1 hP 137 (wd_at (M := Mk) (show 137 < n by omega) ((g_137 cy ad) _)) rfl 20 (by decide) hf78 (fun _ h9 => h9) rfl dX6_look_16 ?_
  refine wr_top (y := (nI z)) hI.2.2.2.1 ?_
  refine lv_icmp_ge (tgt := 47) hx hb dX6_look_19 (by decide) (fun c_19 => ?_) (fun c_19 => ?_)
  · have c_19 := (nI_leI (by omega) (by omega)).mp c_19
    refine lv_aload_n hx hb dX6_look_47 rfl (lv_at hl 1 rfl) ?_
    refine lv_aload_n hx hb dX6_look_48 rfl (lv_at hl 1 rfl) ?_
    refine va_get (D := D) (ci := 5) (v := .ref (ad 144)) (C := RX6) (T := TX6) (N := 27) hx hb hts hin_RX6 hown hE.1 hP 137 (wd_at (M := Mk) (show 137 < n by omega) ((g_137 cy ad) _)) rfl 10 (by decide) hf28 (fun _ h9 => h9) rfl dX6_look_49 ?_
    refine lv_iload_n hx hb dX6_look_52 rfl (lv_at hl 3 rfl) ?_
    refine wr_ald (cy := cy) (ad := ad) (ex := []) hx hb hE.1 hP 144 (show 144 < n by omega) ((g_144 cy ad) _) tq rfl (by omega) (by decide) dX6_look_53 ?_
    refine wr_top (y := (M 144 tq)) (by rw [hI.2.1 _ (by decide) (by decide)]) ?_
    refine wr_put (cy := cy) (ad := ad) (ex := []) (ci := 5) (C := RX6) (T := TX6) (N := 27) (ty := .int) hx hb hts hin_RX6 tyX6 tyX6_ok nmX6 hown hE.1 hP hD hS 137 (show 137 < n by omega) ((g_137 cy ad) _) rfl 22 (by decide) hf95 (fun _ h9 => h9) rfl (by decide +kernel) rfl rfl (by simp) (((g_137 cy ad) _).trans (by simp [st_at])) dX6_look_54 (fun H locs hP hS => ?_)
    refine lv_aload_n hx hb dX6_look_57 rfl (lv_at hl 1 rfl) ?_
    refine lv_aload_n hx hb dX6_look_58 rfl (lv_at hl 1 rfl) ?_
    refine va_get (D := D) (ci := 5) (v := .ref (ad 143)) (C := RX6) (T := TX6) (N := 27) hx hb hts hin_RX6 hown hE.1 hP 137 (wd_at (M := (st Mk 137 22 (M 144 tq))) (show 137 < n by omega) ((g_137 cy ad) _)) rfl 9 (by decide) hf25 (fun _ h9 => h9) rfl dX6_look_59 ?_
    refine lv_iload_n hx hb dX6_look_62 rfl (lv_at hl 3 rfl) ?_
    refine wr_ald (cy := cy) (ad := ad) (ex := []) hx hb hE.1 hP 143 (show 143 < n by omega) ((g_143 cy ad) _) tq rfl (by omega) (by decide) dX6_look_63 ?_
    refine wr_top (y := (Mk 143 tq)) (by rw [st_r _ _ _ (by decide)]) ?_
    refine wr_top (y := (M 143 tq)) (by rw [hI.2.1 _ (by decide) (by decide)]) ?_
    refine wr_put (cy := cy) (ad := ad) (ex := []) (ci := 5) (C := RX6) (T := TX6) (N := 27) (ty := .int) hx hb hts hin_RX6 tyX6 tyX6_ok nmX6 hown hE.1 hP hD hS 137 (show 137 < n by omega) ((g_137 cy ad) _) rfl 23 (by decide) hf81 (fun _ h9 => h9) rfl (by decide +kernel) rfl rfl (by simp) (((g_137 cy ad) _).trans (by simp [st_at])) dX6_look_64 (fun H locs hP hS => ?_)
    refine lv_aload_n hx hb dX6_look_67 rfl (lv_at hl 1 rfl) ?_
    refine lv_iload_n hx hb dX6_look_68 rfl (lv_at hl 4 rfl) ?_
    refine wr_put (cy := cy) (ad := ad) (ex := []) (ci := 5) (C := RX6) (T := TX6) (N := 27) (ty := .int) hx hb hts hin_RX6 tyX6 tyX6_ok nmX6 hown hE.1 hP hD hS 137 (show 137 < n by omega) ((g_137 cy ad) _) rfl 24 (by decide) hf84 (fun _ h9 => h9) rfl (by decide +kernel) rfl rfl (by simp) (((g_137 cy ad) _).trans (by simp [st_at])) dX6_look_69 (fun H locs hP hS => ?_)
    exact W.vret hx hb hr (fun t ht hW => ⟨⟨(st (st (st Mk 137 22 (M 144 tq)) 137 23 (M 143 tq)) 137 24 mo), rfl, ⟨fun a h1 h2 => by rw [st_r _ _ _ h1, st_r _ _ _ h1, st_r _ _ _ h1]; exact hI.2.1 a h1 h2, fun c h20 h22 h23 h24 => by rw [st_c _ _ _ h24, st_c _ _ _ h23, st_c _ _ _ h22]; exact hI.2.2.1 c h20, by rw [st_c _ _ _ (by decide), st_c _ _ _ (by decide), st_c _ _ _ (by decide)]; exact hI.2.2.2.1, by rw [st_c _ _ _ (by decide), st_c _ _ _ (by decide), st_s], by rw [st_c _ _ _ (by decide), st_s], st_s _ _ _ _, fun j hj => by rw [st_r _ _ _ (by decide), st_r _ _ _ (by decide), st_r _ _ _ (by decide)]; exact hI.2.2.2.2 j (by omega)⟩, (by show va_P D vwCl _ t.heap; rw [ht]; exact hP)⟩, hS.F ht⟩) hS.2.2 dX6_look_72
  · have c_19 := mt (nI_leI (by omega) (by omega)).mpr c_19
    refine lv_aload_n hx hb dX6_look_22 rfl (lv_at hl 1 rfl) ?_
    refine va_get (D := D) (ci := 5) (v := .ref (ad 152)) (C := RX6) (T := TX6) (N := 27) hx hb hts hin_RX6 hown hE.1 hP 137 (wd_at (M := Mk) (show 137 < n by omega) ((g_137 cy ad) _)) rfl 21 (by decide) hf57 (fun _ h9 => h9) rfl dX6_look_23 ?_
    refine lv_iload hx hb dX6_look_26 (lv_at hl 0 rfl) ?_
    refine lv_aload_n hx hb dX6_look_28 rfl (lv_at hl 1 rfl) ?_
    refine va_get (D := D) (ci := 5) (v := .ref (ad 142)) (C := RX6) (T := TX6) (N := 27) hx hb hts hin_RX6 hown hE.1 hP 137 (wd_at (M := Mk) (show 137 < n by omega) ((g_137 cy ad) _)) rfl 7 (by decide) hf22 (fun _ h9 => h9) rfl dX6_look_29 ?_
    refine lv_bipush (v := (nI 6)) hx hb dX6_look_32 (by decide) ?_
    refine lv_iload_n hx hb dX6_look_34 rfl (lv_at hl 2 rfl) ?_
    refine lv_imul hx hb dX6_look_35 ?_
    refine wr_top (y := (nI (6 * rq))) (pk_mul _ _) ?_
    refine lv_iload hx hb dX6_look_36 (lv_at hl 0 rfl) ?_
    refine lv_iadd hx hb dX6_look_38 ?_
    refine wr_top (y := (nI ((6 * rq) + i))) (nI_add _ _) ?_
    refine wr_ald (cy := cy) (ad := ad) (ex := []) hx hb hE.1 hP 142 (show 142 < n by omega) ((g_142 cy ad) _) ((6 * rq) + i) rfl (by omega) (by decide) dX6_look_39 ?_
    refine wr_top (y := (M 142 ((6 * rq) + i))) (by rw [hI.2.1 _ (by decide) (by decide)]) ?_
    refine wr_ast (cy := cy) (ad := ad) (ex := []) hx hb hE.1 hP hD hS 152 (show 152 < n by omega) (g_152 cy ad) i rfl (by omega) (by decide) dX6_look_40 (fun H locs hP hS => ?_)
    refine lv_iinc (v := (nI (i + 1))) (lv' := [(4, .int (nI (i + 1))), (0, .ref (ad 137)), (1, .int (nI rq)), (2, .int (nI tq)), (3, .int mo)]) hx hb dX6_look_41 hl (k := 0) rfl (nI_1 _) (by decide) rfl (fun ls hl => ?_)
    refine lv_goto (tgt := 13) hx hb dX6_look_44 (by decide) ?_
    exact ih13 _ (i + 1, (st Mk 152 i (M 142 ((6 * rq) + i)))) _ _ _ (by omega) ⟨rfl, ⟨by omega, fun a h1 h2 => by rw [st_r _ _ _ h2]; exact hI.2.1 a h1 h2, fun c hc => by rw [st_r _ _ _ (by decide)]; exact hI.2.2.1 c hc, by rw [st_r _ _ _ (by decide)]; exact hI.2.2.2.1, fun j hj => by rcases Nat.lt_or_ge j i with h | h <;> first | (rw [st_c _ _ _ (show j ≠ i by omega)]; exact hI.2.2.2.2 j h) | (rw [show j = i by omega, st_s])⟩, hP, hS, (lv_sub hl [0, 1, 2, 3, 4] rfl)⟩

set_option maxHeartbeats 4000000 in
set_option maxRecDepth 100000 in
/-- model step -/
theorem kX6_step (l : Launch) {D : va_G} {cy ad : Nat → Nat} {n : Nat} {M : Mm} {A : Nat → Prop} (hD : ∀ M, va_D A (wd cy ad n M ++ [])) (hn : 154 ≤ n) {z bB c0 i r0 : Nat} (htb : tbP M) (hz : M 137 20 = nI z) (hz6 : z ≤ 6) (hbb : M 137 22 = nI bB) (hbe : eltN bB = true) (hi6 : i < 6) (hy : eltN (vN (M 152 i)) = true) (htg : eltN (vN (M 153 1)) = true) (hc0 : c0 < 1013) (hr0 : r0 < 1013) : Met l yX6_step wsX6_step ({ frames := 2, cells := 0, slots := 0, locals := 44 }) (va_Pc [.ref (ad 137), .int (nI c0), .int (nI i), .int (nI r0)] (RW D cy (wd cy ad n M ++ []) A)) (va_Qi (S := Mm) (fun r u => r = nI (stN (stmI z (M 152) (M 137 23) (M 137 24) (M 153 1)) bB (vN (M 153 1)) c0 (vN (M 152 i)) r0) ∧ mxP M u) (fun u t => va_P D vwCl (wd cy ad n u ++ []) t.heap) A) 0 0 A := by
  refine Met.ofW (cc := cX6_step) (maxL := 4) (ret := (some .int)) (by decide +kernel) rfl ?_
  intro p e s m args below meth c s₁ B hml hv
  obtain ⟨rfl, hP, hE, hA⟩ := hv
  have hx := B.exec
  have hb := B.bytes
  have hr := B.returns
  have hts := atoms_spec (ws := wsX6_step) B.pre
  have hown : s.vm.findClass RX6 = some m.cls := findClass_of_methodNamed B.named
  have hlocks := B.notSynchronized
  have hf57 : (Cond.fieldLink RX6 57 "RingPetitionModel" "y" "[I").before #[.ref (ad 137), .int (nI c0), .int (nI i), .int (nI r0)] s = true := hts _ (by decide +kernel)
  have hf60 : (Cond.fieldLink RX6 60 "RingPetitionModel" "numbers" "[I").before #[.ref (ad 137), .int (nI c0), .int (nI i), .int (nI r0)] s = true := hts _ (by decide +kernel)
  have hf95 : (Cond.fieldLink RX6 95 "RingPetitionModel" "base" "I").before #[.ref (ad 137), .int (nI c0), .int (nI i), .int (nI r0)] s = true := hts _ (by decide +kernel)
  have hin_RX6 : ∀ w ∈ u_ws RX6 TX6 27, w ∈ wsX6_step := by decide +kernel
  have hS : va_S A s.heap s.heap [] := va_S.rf
  have hl := lv_entry ([.ref (ad 137), .int (nI c0), .int (nI i), .int (nI r0)]) (n := 4) (Nat.le_of_ble_eq_true rfl)
  rw [lg_entry_eq]
  generalize (lg_sl ([.ref (ad 137), .int (nI c0), .int (nI i), .int (nI r0)]) ++ List.replicate (4 - (lg_sl ([.ref (ad 137), .int (nI c0), .int (nI i), .int (nI r0)])).length) Slot.unset).toArray = ls at hl ⊢
  have hl : lv_has ls 4 [(0, .ref (ad 137)), (1, .int (nI c0)), (2, .int (nI i)), (3, .int (nI r0))] := hl
  refine lv_aload_n hx hb dX6_step_0 rfl (lv_at hl 0 rfl) ?_
  refine lv_aload_n hx hb dX6_step_1 rfl (lv_at hl 0 rfl) ?_
  refine lv_iconst (v := (nI 4)) hx hb dX6_step_2 (by decide) ?_
  refine lv_iload_n hx hb dX6_step_3 rfl (lv_at hl 3 rfl) ?_
  refine lv_aload_n hx hb dX6_step_4 rfl (lv_at hl 0 rfl) ?_
  refine va_get (D := D) (ci := 5) (v := .ref (ad 152)) (C := RX6) (T := TX6) (N := 27) hx hb hts hin_RX6 hown hE.1 hP 137 (wd_at (M := M) (show 137 < n by omega) ((g_137 cy ad) _)) rfl 21 (by decide) hf57 (fun _ h9 => h9) rfl dX6_step_5 ?_
  refine lv_iload_n hx hb dX6_step_8 rfl (lv_at hl 2 rfl) ?_
  refine wr_ald (cy := cy) (ad := ad) (ex := []) hx hb hE.1 hP 152 (show 152 < n by omega) ((g_152 cy ad) _) i rfl (by omega) (by decide) dX6_step_9 ?_
  refine wr_top (y := (nI (vN (M 152 i)))) (elt_x hy) ?_
  refine lv_iload_n hx hb dX6_step_10 rfl (lv_at hl 1 rfl) ?_
  refine vp_callSi (W.runV (As := [.int (nI 4), .int (nI r0), .int (nI (vN (M 152 i))), .int (nI c0)]) (rest := [.ref (ad 137)]) ⟨hx, hb, hml, hown, hts⟩ (kX6_both l hn htb elt_4 hy hr0 hc0) (cwV 4 hts gX6_step_X6_both rfl rfl rfl (by decide +kernel) ⟨Nat.le_of_ble_eq_true rfl, Nat.le_of_ble_eq_true rfl⟩) (ro_pv (ci := 5) (q := (RX6, TX6, 27)) hE hP rfl (wd_at (M := M) (show 137 < n by omega) ((g_137 cy ad) _))) rfl rfl hl.1 rfl (lv_room (Nat.le_of_ble_eq_true rfl)) dX6_step_11 ⟨Nat.le_of_ble_eq_true rfl, Nat.le_of_ble_eq_true rfl⟩) (fun r_11 hr_11 => ?_)
  subst hr_11
  refine lv_aload_n hx hb dX6_step_14 rfl (lv_at hl 0 rfl) ?_
  refine lv_aload_n hx hb dX6_step_15 rfl (lv_at hl 0 rfl) ?_
  refine va_get (D := D) (ci := 5) (v := .int (M 137 22)) (C := RX6) (T := TX6) (N := 27) hx hb hts hin_RX6 hown hE.1 hP 137 (wd_at (M := M) (show 137 < n by omega) ((g_137 cy ad) _)) rfl 22 (by decide) hf95 (fun _ h9 => h9) rfl dX6_step_16 ?_
  refine wr_top (y := (nI bB)) hbb ?_
  refine lv_iload_n hx hb dX6_step_19 rfl (lv_at hl 3 rfl) ?_
  refine lv_aload_n hx hb dX6_step_20 rfl (lv_at hl 0 rfl) ?_
  refine va_get (D := D) (ci := 5) (v := .ref (ad 153)) (C := RX6) (T := TX6) (N := 27) hx hb hts hin_RX6 hown hE.1 hP 137 (wd_at (M := M) (show 137 < n by omega) ((g_137 cy ad) _)) rfl 25 (by decide) hf60 (fun _ h9 => h9) rfl dX6_step_21 ?_
  refine lv_iconst (v := (nI 1)) hx hb dX6_step_24 (by decide) ?_
  refine wr_ald (cy := cy) (ad := ad) (ex := []) hx hb hE.1 hP 153 (show 153 < n by omega) ((g_153 cy ad) _) 1 rfl (by omega) (by decide) dX6_step_25 ?_
  refine wr_top (y := (nI (vN (M 153 1)))) (elt_x htg) ?_
  refine lv_iload_n hx hb dX6_step_26 rfl (lv_at hl 1 rfl) ?_
  refine vp_callSi (W.runV (As := [.int (nI bB), .int (nI r0), .int (nI (vN (M 153 1))), .int (nI c0)]) (rest := [.int (nI (4 ^ r0 * vN (M 152 i) ^ c0 % 2027)), .ref (ad 137)]) ⟨hx, hb, hml, hown, hts⟩ (kX6_both l hn htb hbe htg hr0 hc0) (cwV 4 hts gX6_step_X6_both rfl rfl rfl (by decide +kernel) ⟨Nat.le_of_ble_eq_true rfl, Nat.le_of_ble_eq_true rfl⟩) (ro_pv (ci := 5) (q := (RX6, TX6, 27)) hE hP rfl (wd_at (M := M) (show 137 < n by omega) ((g_137 cy ad) _))) rfl rfl hl.1 rfl (lv_room (Nat.le_of_ble_eq_true rfl)) dX6_step_27 ⟨Nat.le_of_ble_eq_true rfl, Nat.le_of_ble_eq_true rfl⟩) (fun r_27 hr_27 => ?_)
  subst hr_27
  refine va_calli (va_runV (As := [.int (nI (4 ^ r0 * vN (M 152 i) ^ c0 % 2027)), .int (nI (bB ^ r0 * vN (M 153 1) ^ c0 % 2027))]) (rest := []) ⟨hx, hb, hml, hown, hts⟩ (kX6_challenge l hD hn hz hz6) (cwV 2 hts gX6_step_X6_challenge rfl rfl rfl (by decide +kernel) ⟨Nat.le_of_ble_eq_true rfl, Nat.le_of_ble_eq_true rfl⟩) (rw_pv (ci := 5) (q := (RX6, TX6, 27)) hE hP hS hA rfl (wd_at (M := M) (show 137 < n by omega) ((g_137 cy ad) _))) rfl rfl hl.1 rfl (lv_room (Nat.le_of_ble_eq_true rfl)) dX6_step_30 ⟨Nat.le_of_ble_eq_true rfl, Nat.le_of_ble_eq_true rfl⟩) hS (fun q _ h => h) (fun q h => h) (fun r_30 u_30 t H1 locs ht hvm hr_30 hB_30 hz1 hk1 hS => ?_)
  have hP : va_P D vwCl (wd cy ad n u_30 ++ []) H1 := by rw [← ht]; exact hB_30
  clear hB_30 ht hvm hz1 hk1
  generalize H1 = H at hP hS ⊢
  obtain ⟨rfl, hmx⟩ := hr_30
  exact W.iret (v := (nI (chN (stmI z (M 152) (M 137 23) (M 137 24) (M 153 1)) (4 ^ r0 * vN (M 152 i) ^ c0 % 2027) (bB ^ r0 * vN (M 153 1) ^ c0 % 2027)))) hx hb hr (fun t ht hW => ⟨⟨(nI (chN (stmI z (M 152) (M 137 23) (M 137 24) (M 153 1)) (4 ^ r0 * vN (M 152 i) ^ c0 % 2027) (bB ^ r0 * vN (M 153 1) ^ c0 % 2027))), u_30, rfl, ⟨rfl, hmx⟩, (by show va_P D vwCl _ t.heap; rw [ht]; exact hP)⟩, hS.F ht⟩) hS.2.2 dX6_step_33

set_option maxHeartbeats 4000000 in
set_option maxRecDepth 100000 in
/-- model isGood -/
theorem kX6_isGood (l : Launch) {D : va_G} {cy ad : Nat → Nat} {n : Nat} {M : Mm} {A : Nat → Prop} (hD : ∀ M, va_D A (wd cy ad n M ++ [])) (hn : 154 ≤ n) {z bB : Nat} (htb : tbP M) (hz : M 137 20 = nI z) (hz6 : z ≤ 6) (hbb : M 137 22 = nI bB) (hbe : eltN bB = true) (hy : ∀ j, j < z → eltN (vN (M 152 j)) = true) : Met l yX6_isGood wsX6_isGood ({ frames := 3, cells := 0, slots := 0, locals := 67 }) (va_Pc [.ref (ad 137)] (RW D cy (wd cy ad n M ++ []) A)) (va_Qi (S := Mm) (fun r u => bP (gdM M z bB) r ∧ mxP M u) (fun u t => va_P D vwCl (wd cy ad n u ++ []) t.heap) A) 0 0 A := by
  refine Met.ofW (cc := cX6_isGood) (maxL := 4) (ret := (some .boolean)) (by decide +kernel) rfl ?_
  intro p e s m args below meth c s₁ B hml hv
  obtain ⟨rfl, hP, hE, hA⟩ := hv
  have hx := B.exec
  have hb := B.bytes
  have hr := B.returns
  have hts := atoms_spec (ws := wsX6_isGood) B.pre
  have hown : s.vm.findClass RX6 = some m.cls := findClass_of_methodNamed B.named
  have hlocks := B.notSynchronized
  have hf60 : (Cond.fieldLink RX6 60 "RingPetitionModel" "numbers" "[I").before #[.ref (ad 137)] s = true := hts _ (by decide +kernel)
  have hf78 : (Cond.fieldLink RX6 78 "RingPetitionModel" "n" "I").before #[.ref (ad 137)] s = true := hts _ (by decide +kernel)
  have hin_RX6 : ∀ w ∈ u_ws RX6 TX6 27, w ∈ wsX6_isGood := by decide +kernel
  have hS : va_S A s.heap s.heap [] := va_S.rf
  have hl := lv_entry ([.ref (ad 137)]) (n := 4) (Nat.le_of_ble_eq_true rfl)
  rw [lg_entry_eq]
  generalize (lg_sl ([.ref (ad 137)]) ++ List.replicate (4 - (lg_sl ([.ref (ad 137)])).length) Slot.unset).toArray = ls at hl ⊢
  have hl : lv_has ls 4 [(0, .ref (ad 137))] := hl
  refine wcutR 31 (fun (hv : Int32) ls st9 => st9 = [.int hv] ∧ bP (isE (M 153 0) ∧ eltN (vN (M 153 1)) = true) hv ∧ lv_has ls 4 [(0, .ref (ad 137))]) (fun hv ls st9 h9 => ?_) (fun hcut => ?_)
  · obtain ⟨rfl, hv9, hl⟩ := h9
    refine lv_istore_n (lv' := [(1, .int hv), (0, .ref (ad 137))]) hx hb dX6_isGood_31 rfl hl (by decide) rfl (fun ls hl => ?_)
    refine lv_iconst (v := (nI 0)) hx hb dX6_isGood_32 (by decide) ?_
    refine lv_istore_n (lv' := [(2, .int (nI 0)), (1, .int hv), (0, .ref (ad 137))]) hx hb dX6_isGood_33 rfl hl (by decide) rfl (fun ls hl => ?_)
    refine wloopR (fun kq (xq : Nat × Int32) ls => match xq with | (i, hv) => kq = z - i ∧ (i ≤ z ∧ bP ((isE (M 153 0) ∧ eltN (vN (M 153 1)) = true) ∧ ∀ j, j < i → isE (M 153 (2 + j))) hv) ∧ lv_has ls 4 [(2, .int (nI i)), (1, .int hv), (0, .ref (ad 137))]) (fun k34 x34 ls h34 ih34 => ?_) _ (0, hv) ls ⟨rfl, ⟨Nat.zero_le _, bP_iff ⟨fun h => ⟨h, fun j h9 => absurd h9 (Nat.not_lt_zero j)⟩, fun h => h.1⟩ hv9⟩, lv_sub hl [0, 1, 2] rfl⟩
    obtain ⟨i, hv⟩ := x34
    obtain ⟨hk34, hI, hl⟩ := h34
    refine lv_iload_n hx hb dX6_isGood_34 rfl (lv_at hl 0 rfl) ?_
    refine lv_aload_n hx hb dX6_isGood_35 rfl (lv_at hl 2 rfl) ?_
    refine va_get (D := D) (ci := 5) (v := .int (M 137 20)) (C := RX6) (T := TX6) (N := 27) hx hb hts hin_RX6 hown hE.1 hP 137 (wd_at (M := M) (show 137 < n by omega) ((g_137 cy ad) _)) rfl 20 (by decide) hf78 (fun _ h9 => h9) rfl dX6_isGood_36 ?_
    refine wr_top (y := (nI z)) hz ?_
    refine lv_icmp_ge (tgt := 73) hx hb dX6_isGood_39 (by decide) (fun c_39 => ?_) (fun c_39 => ?_)
    · have c_39 := (nI_leI (by omega) (by omega)).mp c_39
      rcases hI.2 with ⟨hy_g, hv_g⟩ | ⟨hy_g, hv_g⟩
      · subst hv_g
        refine lv_iload_n hx hb dX6_isGood_73 rfl (lv_at hl 1 rfl) ?_
        refine lv_if_ne (tgt := 79) hx hb dX6_isGood_74 (by decide) (fun c_74 => ?_) (fun c_74 => ?_)
        · have c_74 := mt (o_eq0 _).mpr c_74
          have hgd : (isE (M 153 0) ∧ eltN (vN (M 153 1)) = true) ∧ ∀ j, j < z → isE (M 153 (2 + j)) := ⟨hy_g.1, fun j hj => hy_g.2 j (by omega)⟩
          clear hI hy_g
          have he0 := isE_vN hgd.1.1
          refine lv_aload_n hx hb dX6_isGood_79 rfl (lv_at hl 2 rfl) ?_
          refine va_get (D := D) (ci := 5) (v := .ref (ad 153)) (C := RX6) (T := TX6) (N := 27) hx hb hts hin_RX6 hown hE.1 hP 137 (wd_at (M := M) (show 137 < n by omega) ((g_137 cy ad) _)) rfl 25 (by decide) hf60 (fun _ h9 => h9) rfl dX6_isGood_80 ?_
          refine lv_iconst (v := (nI 0)) hx hb dX6_isGood_83 (by decide) ?_
          refine wr_ald (cy := cy) (ad := ad) (ex := []) hx hb hE.1 hP 153 (show 153 < n by omega) ((g_153 cy ad) _) 0 rfl (by omega) (by decide) dX6_isGood_84 ?_
          refine wr_top (y := (nI (vN (M 153 0)))) he0.2 ?_
          refine lv_istore_n (lv' := [(2, .int (nI (vN (M 153 0)))), (1, .int 1), (0, .ref (ad 137))]) hx hb dX6_isGood_85 rfl hl (by decide) rfl (fun ls hl => ?_)
          refine lv_iconst (v := (nI 0)) hx hb dX6_isGood_86 (by decide) ?_
          refine lv_istore_n (lv' := [(3, .int (nI 0)), (2, .int (nI (vN (M 153 0)))), (1, .int 1), (0, .ref (ad 137))]) hx hb dX6_isGood_87 rfl hl (by decide) rfl (fun ls hl => ?_)
          refine wloopW (fun kq (xq : Nat × Mm) H locs ls => match xq with | (i, Mk) => kq = z - i ∧ (i ≤ z ∧ mxP M Mk) ∧ va_P D vwCl (wd cy ad n Mk ++ []) H ∧ va_S A s.heap H locs ∧ lv_has ls 4 [(3, .int (nI i)), (2, .int (nI (cnF (stmI z (M 152) (M 137 23) (M 137 24) (M 153 1)) bB (vN (M 153 1)) (fun i => vN (M 152 i)) (fun i => vN (M 153 (2 + i))) (vN (M 153 0)) i))), (0, .ref (ad 137))]) (fun k88 x88 H locs ls h88 ih88 => ?_) _ (0, M) _ _ ls ⟨rfl, ⟨Nat.zero_le _, mx_rf _⟩, hP, hS, lv_sub hl [0, 1, 3] rfl⟩
          obtain ⟨i, Mk⟩ := x88
          obtain ⟨hk88, hJ, hP, hS, hl⟩ := h88
          refine lv_iload_n hx hb dX6_isGood_88 rfl (lv_at hl 0 rfl) ?_
          refine lv_aload_n hx hb dX6_isGood_89 rfl (lv_at hl 2 rfl) ?_
          refine va_get (D := D) (ci := 5) (v := .int (Mk 137 20)) (C := RX6) (T := TX6) (N := 27) hx hb hts hin_RX6 hown hE.1 hP 137 (wd_at (M := Mk) (show 137 < n by omega) ((g_137 cy ad) _)) rfl 20 (by decide) hf78 (fun _ h9 => h9) rfl dX6_isGood_90 ?_
          refine wr_top (y := (M 137 20)) (hJ.2.2 _ (by decide)) ?_
          refine wr_top (y := (nI z)) hz ?_
          refine lv_icmp_ge (tgt := 117) hx hb dX6_isGood_93 (by decide) (fun c_93 => ?_) (fun c_93 => ?_)
          · have c_93 := (nI_leI (by omega) (by omega)).mp c_93
            refine lv_iload_n hx hb dX6_isGood_117 rfl (lv_at hl 1 rfl) ?_
            refine lv_aload_n hx hb dX6_isGood_118 rfl (lv_at hl 2 rfl) ?_
            refine va_get (D := D) (ci := 5) (v := .ref (ad 153)) (C := RX6) (T := TX6) (N := 27) hx hb hts hin_RX6 hown hE.1 hP 137 (wd_at (M := Mk) (show 137 < n by omega) ((g_137 cy ad) _)) rfl 25 (by decide) hf60 (fun _ h9 => h9) rfl dX6_isGood_119 ?_
            refine lv_iconst (v := (nI 0)) hx hb dX6_isGood_122 (by decide) ?_
            refine wr_ald (cy := cy) (ad := ad) (ex := []) hx hb hE.1 hP 153 (show 153 < n by omega) ((g_153 cy ad) _) 0 rfl (by omega) (by decide) dX6_isGood_123 ?_
            refine wr_top (y := (nI (vN (M 153 0)))) (by rw [hJ.2.1 _ (by decide)]; exact he0.2) ?_
            refine lv_icmp_ne (tgt := 131) hx hb dX6_isGood_124 (by decide) (fun c_124 => ?_) (fun c_124 => ?_)
            · have hcl := cnF_lt (stmI z (M 152) (M 137 23) (M 137 24) (M 153 1)) bB (vN (M 153 1)) (fun i => vN (M 152 i)) (fun i => vN (M 153 (2 + i))) (vN (M 153 0)) he0.1 i
              have c_124 := mt (nI_eq (by omega) (by omega)).mpr c_124
              refine lv_iconst (v := (nI 0)) hx hb dX6_isGood_131 (by decide) ?_
              have hiz : i = z := by omega
              rw [hiz] at c_124
              have hgg : ¬ gdM M z bB := fun h => c_124 h.2.2.2
              exact W.zret (v := (nI 0)) hx hb hr rfl (fun t ht hW => ⟨⟨(nI 0), Mk, rfl, ⟨bP_0 hgg, hJ.2⟩, (by show va_P D vwCl _ t.heap; rw [ht]; exact hP)⟩, hS.F ht⟩) hS.2.2 dX6_isGood_132
            · have hcl := cnF_lt (stmI z (M 152) (M 137 23) (M 137 24) (M 153 1)) bB (vN (M 153 1)) (fun i => vN (M 152 i)) (fun i => vN (M 153 (2 + i))) (vN (M 153 0)) he0.1 i
              have c_124 := (nI_eq (by omega) (by omega)).mp c_124
              refine lv_iconst (v := (nI 1)) hx hb dX6_isGood_127 (by decide) ?_
              refine lv_goto (tgt := 132) hx hb dX6_isGood_128 (by decide) ?_
              have hiz : i = z := by omega
              rw [hiz] at c_124
              have hgg : gdM M z bB := ⟨hgd.1.1, hgd.1.2, hgd.2, c_124⟩
              exact W.zret (v := (nI 1)) hx hb hr rfl (fun t ht hW => ⟨⟨(nI 1), Mk, rfl, ⟨bP_1 hgg, hJ.2⟩, (by show va_P D vwCl _ t.heap; rw [ht]; exact hP)⟩, hS.F ht⟩) hS.2.2 dX6_isGood_132
          · have c_93 := mt (nI_leI (by omega) (by omega)).mpr c_93
            refine lv_aload_n hx hb dX6_isGood_96 rfl (lv_at hl 2 rfl) ?_
            refine lv_iload_n hx hb dX6_isGood_97 rfl (lv_at hl 1 rfl) ?_
            refine lv_iload_n hx hb dX6_isGood_98 rfl (lv_at hl 0 rfl) ?_
            refine lv_aload_n hx hb dX6_isGood_99 rfl (lv_at hl 2 rfl) ?_
            refine va_get (D := D) (ci := 5) (v := .ref (ad 153)) (C := RX6) (T := TX6) (N := 27) hx hb hts hin_RX6 hown hE.1 hP 137 (wd_at (M := Mk) (show 137 < n by omega) ((g_137 cy ad) _)) rfl 25 (by decide) hf60 (fun _ h9 => h9) rfl dX6_isGood_100 ?_
            refine lv_iconst (v := (nI 2)) hx hb dX6_isGood_103 (by decide) ?_
            refine lv_iload_n hx hb dX6_isGood_104 rfl (lv_at hl 0 rfl) ?_
            refine lv_iadd hx hb dX6_isGood_105 ?_
            refine wr_top (y := (nI (2 + i))) (nI_add _ _) ?_
            refine wr_ald (cy := cy) (ad := ad) (ex := []) hx hb hE.1 hP 153 (show 153 < n by omega) ((g_153 cy ad) _) (2 + i) rfl (by omega) (by decide) dX6_isGood_106 ?_
            refine wr_top (y := (M 153 (2 + i))) (by rw [hJ.2.1 _ (by decide)]) ?_
            have e152 : Mk 152 = M 152 := hJ.2.1 _ (by decide)
            have e153 : Mk 153 = M 153 := hJ.2.1 _ (by decide)
            have e23 : Mk 137 23 = M 137 23 := hJ.2.2 _ (by decide)
            have e24 : Mk 137 24 = M 137 24 := hJ.2.2 _ (by decide)
            have hrr := isE_vN (hgd.2 i (by omega))
            rw [hrr.2]
            refine va_calli (va_runV (As := [.int (nI (cnF (stmI z (M 152) (M 137 23) (M 137 24) (M 153 1)) bB (vN (M 153 1)) (fun i => vN (M 152 i)) (fun i => vN (M 153 (2 + i))) (vN (M 153 0)) i)), .int (nI i), .int (nI (vN (M 153 (2 + i))))]) (rest := []) ⟨hx, hb, hml, hown, hts⟩ (kX6_step l (M := Mk) hD hn (z := z) (bB := bB) (tb_mx htb (hJ.2.1 _ (by decide)) (hJ.2.1 _ (by decide))) (by rw [hJ.2.2 _ (by decide)]; exact hz) hz6 (by rw [hJ.2.2 _ (by decide)]; exact hbb) hbe (by omega) (by rw [e152]; exact hy i (by omega)) (by rw [e153]; exact hgd.1.2) (cnF_lt _ _ _ _ _ _ he0.1 i) hrr.1) (cwV 3 hts gX6_isGood_X6_step rfl rfl rfl (by decide +kernel) ⟨Nat.le_of_ble_eq_true rfl, Nat.le_of_ble_eq_true rfl⟩) (rw_pv (ci := 5) (q := (RX6, TX6, 27)) hE hP hS hA rfl (wd_at (M := Mk) (show 137 < n by omega) ((g_137 cy ad) _))) rfl rfl hl.1 rfl (lv_room (Nat.le_of_ble_eq_true rfl)) dX6_isGood_107 ⟨Nat.le_of_ble_eq_true rfl, Nat.le_of_ble_eq_true rfl⟩) hS (fun q _ h => h) (fun q h => h) (fun r_107 u_107 t H1 locs ht hvm hr_107 hB_107 hz1 hk1 hS => ?_)
            have hP : va_P D vwCl (wd cy ad n u_107 ++ []) H1 := by rw [← ht]; exact hB_107
            clear hB_107 ht hvm hz1 hk1
            generalize H1 = H at hP hS ⊢
            obtain ⟨hr_107, hmx⟩ := hr_107
            rw [e152, e153, e23, e24] at hr_107
            subst hr_107
            refine lv_istore_n (lv' := [(2, .int (nI (cnF (stmI z (M 152) (M 137 23) (M 137 24) (M 153 1)) bB (vN (M 153 1)) (fun i => vN (M 152 i)) (fun i => vN (M 153 (2 + i))) (vN (M 153 0)) (i + 1)))), (3, .int (nI i)), (0, .ref (ad 137))]) hx hb dX6_isGood_110 rfl hl (by decide) rfl (fun ls hl => ?_)
            refine lv_iinc (v := (nI (i + 1))) (lv' := [(3, .int (nI (i + 1))), (2, .int (nI (cnF (stmI z (M 152) (M 137 23) (M 137 24) (M 153 1)) bB (vN (M 153 1)) (fun i => vN (M 152 i)) (fun i => vN (M 153 (2 + i))) (vN (M 153 0)) (i + 1)))), (0, .ref (ad 137))]) hx hb dX6_isGood_111 hl (k := 1) rfl (nI_1 _) (by decide) rfl (fun ls hl => ?_)
            refine lv_goto (tgt := 88) hx hb dX6_isGood_114 (by decide) ?_
            exact ih88 _ (i + 1, u_107) _ _ _ (by omega) ⟨rfl, ⟨by omega, mx_tr hJ.2 hmx⟩, hP, hS, (lv_sub hl [0, 1, 2] rfl)⟩
        · exact absurd c_74 (by decide)
      · subst hv_g
        refine lv_iload_n hx hb dX6_isGood_73 rfl (lv_at hl 1 rfl) ?_
        refine lv_if_ne (tgt := 79) hx hb dX6_isGood_74 (by decide) (fun c_74 => ?_) (fun c_74 => ?_)
        · exact absurd c_74 (by decide)
        · have c_74 := (o_eq0 _).mp c_74
          refine lv_iconst (v := (nI 0)) hx hb dX6_isGood_77 (by decide) ?_
          have hng : ¬ gdM M z bB := fun h => hy_g ⟨⟨h.1, h.2.1⟩, fun j hj => h.2.2.1 j (by omega)⟩
          exact W.zret (v := (nI 0)) hx hb hr rfl (fun t ht hW => ⟨⟨(nI 0), M, rfl, ⟨bP_0 hng, mx_rf _⟩, (by show va_P D vwCl _ t.heap; rw [ht]; exact hP)⟩, hS.F ht⟩) hS.2.2 dX6_isGood_78
    · have c_39 := mt (nI_leI (by omega) (by omega)).mpr c_39
      rcases hI.2 with ⟨hy_f, hv_f⟩ | ⟨hy_f, hv_f⟩
      · subst hv_f
        refine lv_iload_n hx hb dX6_isGood_42 rfl (lv_at hl 1 rfl) ?_
        refine lv_if_eq (tgt := 65) hx hb dX6_isGood_43 (by decide) (fun c_43 => ?_) (fun c_43 => ?_)
        · exact absurd c_43 (by decide)
        · have c_43 := mt (o_eq0 _).mpr c_43
          refine lv_aload_n hx hb dX6_isGood_46 rfl (lv_at hl 2 rfl) ?_
          refine lv_aload_n hx hb dX6_isGood_47 rfl (lv_at hl 2 rfl) ?_
          refine va_get (D := D) (ci := 5) (v := .ref (ad 153)) (C := RX6) (T := TX6) (N := 27) hx hb hts hin_RX6 hown hE.1 hP 137 (wd_at (M := M) (show 137 < n by omega) ((g_137 cy ad) _)) rfl 25 (by decide) hf60 (fun _ h9 => h9) rfl dX6_isGood_48 ?_
          refine lv_iconst (v := (nI 2)) hx hb dX6_isGood_51 (by decide) ?_
          refine lv_iload_n hx hb dX6_isGood_52 rfl (lv_at hl 0 rfl) ?_
          refine lv_iadd hx hb dX6_isGood_53 ?_
          refine wr_top (y := (nI (2 + i))) (nI_add _ _) ?_
          refine wr_ald (cy := cy) (ad := ad) (ex := []) hx hb hE.1 hP 153 (show 153 < n by omega) ((g_153 cy ad) _) (2 + i) rfl (by omega) (by decide) dX6_isGood_54 ?_
          refine vp_callSi (W.runV (As := [.int (M 153 (2 + i))]) (rest := []) ⟨hx, hb, hml, hown, hts⟩ (kX6_isRest l hn) (cwV 1 hts gX6_isGood_X6_isRest rfl rfl rfl (by decide +kernel) ⟨Nat.le_of_ble_eq_true rfl, Nat.le_of_ble_eq_true rfl⟩) (ro_pv (ci := 5) (q := (RX6, TX6, 27)) hE hP rfl (wd_at (M := M) (show 137 < n by omega) ((g_137 cy ad) _))) rfl rfl hl.1 rfl (lv_room (Nat.le_of_ble_eq_true rfl)) dX6_isGood_55 ⟨Nat.le_of_ble_eq_true rfl, Nat.le_of_ble_eq_true rfl⟩) (fun r_55 hr_55 => ?_)
          rcases hr_55 with ⟨hq_55, rfl⟩ | ⟨hq_55, rfl⟩
          · refine lv_if_eq (tgt := 65) hx hb dX6_isGood_58 (by decide) (fun c_58 => ?_) (fun c_58 => ?_)
            · exact absurd c_58 (by decide)
            · have c_58 := mt (o_eq0 _).mpr c_58
              refine lv_iconst (v := (nI 1)) hx hb dX6_isGood_61 (by decide) ?_
              refine lv_goto (tgt := 66) hx hb dX6_isGood_62 (by decide) ?_
              refine lv_istore_n (lv' := [(1, .int (nI 1)), (2, .int (nI i)), (0, .ref (ad 137))]) hx hb dX6_isGood_66 rfl hl (by decide) rfl (fun ls hl => ?_)
              refine lv_iinc (v := (nI (i + 1))) (lv' := [(2, .int (nI (i + 1))), (1, .int (nI 1)), (0, .ref (ad 137))]) hx hb dX6_isGood_67 hl (k := 1) rfl (nI_1 _) (by decide) rfl (fun ls hl => ?_)
              refine lv_goto (tgt := 34) hx hb dX6_isGood_70 (by decide) ?_
              exact ih34 _ (i + 1, (nI 1)) _ (by omega) ⟨rfl, ⟨by omega, bP_1 ⟨hy_f.1, fun j hj => by rcases Nat.lt_or_ge j i with h9 | h9 <;> first | exact hy_f.2 j h9 | (rw [show j = i by omega]; exact hq_55)⟩⟩, (lv_sub hl [0, 1, 2] rfl)⟩
          · refine lv_if_eq (tgt := 65) hx hb dX6_isGood_58 (by decide) (fun c_58 => ?_) (fun c_58 => ?_)
            · have c_58 := (o_eq0 _).mp c_58
              refine lv_iconst (v := (nI 0)) hx hb dX6_isGood_65 (by decide) ?_
              refine lv_istore_n (lv' := [(1, .int (nI 0)), (2, .int (nI i)), (0, .ref (ad 137))]) hx hb dX6_isGood_66 rfl hl (by decide) rfl (fun ls hl => ?_)
              refine lv_iinc (v := (nI (i + 1))) (lv' := [(2, .int (nI (i + 1))), (1, .int (nI 0)), (0, .ref (ad 137))]) hx hb dX6_isGood_67 hl (k := 1) rfl (nI_1 _) (by decide) rfl (fun ls hl => ?_)
              refine lv_goto (tgt := 34) hx hb dX6_isGood_70 (by decide) ?_
              exact ih34 _ (i + 1, (nI 0)) _ (by omega) ⟨rfl, ⟨by omega, bP_0 (fun h => hq_55 (h.2 i (by omega)))⟩, (lv_sub hl [0, 1, 2] rfl)⟩
            · exact absurd c_58 (by decide)
      · subst hv_f
        refine lv_iload_n hx hb dX6_isGood_42 rfl (lv_at hl 1 rfl) ?_
        refine lv_if_eq (tgt := 65) hx hb dX6_isGood_43 (by decide) (fun c_43 => ?_) (fun c_43 => ?_)
        · have c_43 := (o_eq0 _).mp c_43
          refine lv_iconst (v := (nI 0)) hx hb dX6_isGood_65 (by decide) ?_
          refine lv_istore_n (lv' := [(1, .int (nI 0)), (2, .int (nI i)), (0, .ref (ad 137))]) hx hb dX6_isGood_66 rfl hl (by decide) rfl (fun ls hl => ?_)
          refine lv_iinc (v := (nI (i + 1))) (lv' := [(2, .int (nI (i + 1))), (1, .int (nI 0)), (0, .ref (ad 137))]) hx hb dX6_isGood_67 hl (k := 1) rfl (nI_1 _) (by decide) rfl (fun ls hl => ?_)
          refine lv_goto (tgt := 34) hx hb dX6_isGood_70 (by decide) ?_
          exact ih34 _ (i + 1, (nI 0)) _ (by omega) ⟨rfl, ⟨by omega, bP_0 (fun h => hy_f ⟨h.1, fun j hj => h.2 j (by omega)⟩)⟩, (lv_sub hl [0, 1, 2] rfl)⟩
        · exact absurd c_43 (by decide)
  · refine lv_aload_n hx hb dX6_isGood_0 rfl (lv_at hl 0 rfl) ?_
    refine lv_aload_n hx hb dX6_isGood_1 rfl (lv_at hl 0 rfl) ?_
    refine va_get (D := D) (ci := 5) (v := .ref (ad 153)) (C := RX6) (T := TX6) (N := 27) hx hb hts hin_RX6 hown hE.1 hP 137 (wd_at (M := M) (show 137 < n by omega) ((g_137 cy ad) _)) rfl 25 (by decide) hf60 (fun _ h9 => h9) rfl dX6_isGood_2 ?_
    refine lv_iconst (v := (nI 0)) hx hb dX6_isGood_5 (by decide) ?_
    refine wr_ald (cy := cy) (ad := ad) (ex := []) hx hb hE.1 hP 153 (show 153 < n by omega) ((g_153 cy ad) _) 0 rfl (by omega) (by decide) dX6_isGood_6 ?_
    refine vp_callSi (W.runV (As := [.int (M 153 0)]) (rest := []) ⟨hx, hb, hml, hown, hts⟩ (kX6_isRest l hn) (cwV 1 hts gX6_isGood_X6_isRest rfl rfl rfl (by decide +kernel) ⟨Nat.le_of_ble_eq_true rfl, Nat.le_of_ble_eq_true rfl⟩) (ro_pv (ci := 5) (q := (RX6, TX6, 27)) hE hP rfl (wd_at (M := M) (show 137 < n by omega) ((g_137 cy ad) _))) rfl rfl hl.1 rfl (lv_room (Nat.le_of_ble_eq_true rfl)) dX6_isGood_7 ⟨Nat.le_of_ble_eq_true rfl, Nat.le_of_ble_eq_true rfl⟩) (fun r_7 hr_7 => ?_)
    rcases hr_7 with ⟨hq_7, rfl⟩ | ⟨hq_7, rfl⟩
    · refine lv_if_eq (tgt := 30) hx hb dX6_isGood_10 (by decide) (fun c_10 => ?_) (fun c_10 => ?_)
      · exact absurd c_10 (by decide)
      · have c_10 := mt (o_eq0 _).mpr c_10
        refine lv_aload_n hx hb dX6_isGood_13 rfl (lv_at hl 0 rfl) ?_
        refine lv_aload_n hx hb dX6_isGood_14 rfl (lv_at hl 0 rfl) ?_
        refine va_get (D := D) (ci := 5) (v := .ref (ad 153)) (C := RX6) (T := TX6) (N := 27) hx hb hts hin_RX6 hown hE.1 hP 137 (wd_at (M := M) (show 137 < n by omega) ((g_137 cy ad) _)) rfl 25 (by decide) hf60 (fun _ h9 => h9) rfl dX6_isGood_15 ?_
        refine lv_iconst (v := (nI 1)) hx hb dX6_isGood_18 (by decide) ?_
        refine wr_ald (cy := cy) (ad := ad) (ex := []) hx hb hE.1 hP 153 (show 153 < n by omega) ((g_153 cy ad) _) 1 rfl (by omega) (by decide) dX6_isGood_19 ?_
        refine vp_callSi (W.runV (As := [.int (M 153 1)]) (rest := []) ⟨hx, hb, hml, hown, hts⟩ (kX6_isKey l hn htb) (cwV 1 hts gX6_isGood_X6_isKey rfl rfl rfl (by decide +kernel) ⟨Nat.le_of_ble_eq_true rfl, Nat.le_of_ble_eq_true rfl⟩) (ro_pv (ci := 5) (q := (RX6, TX6, 27)) hE hP rfl (wd_at (M := M) (show 137 < n by omega) ((g_137 cy ad) _))) rfl rfl hl.1 rfl (lv_room (Nat.le_of_ble_eq_true rfl)) dX6_isGood_20 ⟨Nat.le_of_ble_eq_true rfl, Nat.le_of_ble_eq_true rfl⟩) (fun r_20 hr_20 => ?_)
        rcases hr_20 with ⟨hq_20, rfl⟩ | ⟨hq_20, rfl⟩
        · refine lv_if_eq (tgt := 30) hx hb dX6_isGood_23 (by decide) (fun c_23 => ?_) (fun c_23 => ?_)
          · exact absurd c_23 (by decide)
          · have c_23 := mt (o_eq0 _).mpr c_23
            refine lv_iconst (v := (nI 1)) hx hb dX6_isGood_26 (by decide) ?_
            refine lv_goto (tgt := 31) hx hb dX6_isGood_27 (by decide) ?_
            exact hcut _ ls _ ⟨rfl, bP_1 ⟨hq_7, hq_20⟩, lv_sub hl [0] rfl⟩
        · refine lv_if_eq (tgt := 30) hx hb dX6_isGood_23 (by decide) (fun c_23 => ?_) (fun c_23 => ?_)
          · have c_23 := (o_eq0 _).mp c_23
            refine lv_iconst (v := (nI 0)) hx hb dX6_isGood_30 (by decide) ?_
            exact hcut _ ls _ ⟨rfl, bP_0 (fun h => hq_20 h.2), lv_sub hl [0] rfl⟩
          · exact absurd c_23 (by decide)
    · refine lv_if_eq (tgt := 30) hx hb dX6_isGood_10 (by decide) (fun c_10 => ?_) (fun c_10 => ?_)
      · have c_10 := (o_eq0 _).mp c_10
        refine lv_iconst (v := (nI 0)) hx hb dX6_isGood_30 (by decide) ?_
        exact hcut _ ls _ ⟨rfl, bP_0 (fun h => hq_7 h.1), lv_sub hl [0] rfl⟩
      · exact absurd c_10 (by decide)
