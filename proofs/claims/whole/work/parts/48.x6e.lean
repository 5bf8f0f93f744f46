theorem sc_th {M N : Mm} {v w : Int32} (h : scM (st M 137 0 v) N) : scM (st M 137 0 w) (st N 137 0 w) := by
  refine ⟨fun a h1 h2 h3 => ?_, fun c a1 a2 a3 a4 a5 => ?_⟩
  · rw [st_r _ _ _ h1, st_r _ _ _ h1, h.1 a h1 h2 h3, st_r _ _ _ h1]
  · rw [st_at, st_at]
    by_cases e : 137 = 137 ∧ c = 0
    · rw [if_pos e, if_pos e]
    · rw [if_neg e, if_neg e, h.2 c a1 a2 a3 a4 a5, st_at, if_neg e]
/-- what a good submission makes of the model's memory -/
def sbP (M u : Mm) (tq s d : Nat) (rg mo : Int32) : Prop :=
  (∀ a, a ≠ 137 → a ≠ 146 → a ≠ 147 → a ≠ 148 → a ≠ 149 → a ≠ 152 → a ≠ 153 → u a = M a) ∧ (∀ c, c ≠ 0 → c ≠ 20 → c ≠ 22 → c ≠ 23 → c ≠ 24 → c ≠ 26 → u 137 c = M 137 c) ∧ u 137 0 = nI 0 ∧
  u 146 = st M 146 tq (nI (s + 1)) 146 ∧ u 147 = st M 147 (8 * tq + s) rg 147 ∧ u 148 = st M 148 (8 * tq + s) mo 148 ∧ (∀ j, j < d → u 149 (8 * (8 * tq + s) + j) = M 150 j) ∧ ∀ b, b < 8 * (8 * tq + s) ∨ 8 * (8 * tq + s) + 8 ≤ b → u 149 b = M 149 b
theorem st_rw2 {M N : Mm} {k : Nat} (h : N k = M k) (j : Nat) (v : Int32) : st N k j v k = st M k j v k := by
  funext b
  rw [st_at, st_at, h]
theorem sb_fin {M N K : Mm} {tq s d : Nat} {rg mo : Int32} (hsu : scM (st M 137 0 (nI 0)) N) (h1 : ∀ a, a ≠ 149 → K a = st (st (st N 137 0 (nI 0)) 147 (8 * tq + s) rg) 148 (8 * tq + s) mo a)
    (h2 : ∀ j, j < d → K 149 (8 * (8 * tq + s) + j) = M 150 j) (h3 : ∀ b, b < 8 * (8 * tq + s) ∨ 8 * (8 * tq + s) + 8 ≤ b → K 149 b = M 149 b) : sbP M (st K 146 tq (nI (s + 1))) tq s d rg mo := by
  have hN : ∀ a, a ≠ 137 → a ≠ 152 → a ≠ 153 → N a = M a := fun a b1 b2 b3 => (hsu.1 a b1 b2 b3).trans (st_r _ _ _ b1)
  refine ⟨fun a a1 a2 a3 a4 a5 a6 a7 => ?_, fun c a0 a1 a2 a3 a4 a5 => ?_, ?_, ?_, ?_, ?_, fun j hj => ?_, fun b hb => ?_⟩
  · rw [st_r _ _ _ a2, h1 a a5, st_r _ _ _ a4, st_r _ _ _ a3, st_r _ _ _ a1]; exact hN a a1 a6 a7
  · rw [st_r _ _ _ (by decide), h1 137 (by decide), st_r _ _ _ (by decide), st_r _ _ _ (by decide), st_c _ _ _ a0, hsu.2 c a1 a2 a3 a4 a5, st_c _ _ _ a0]
  · rw [st_r _ _ _ (by decide), h1 137 (by decide), st_r _ _ _ (by decide), st_r _ _ _ (by decide), st_s]
  · refine st_rw2 ?_ _ _
    rw [h1 146 (by decide), st_r _ _ _ (by decide), st_r _ _ _ (by decide), st_r _ _ _ (by decide)]; exact hN 146 (by decide) (by decide) (by decide)
  · rw [st_r _ _ _ (by decide), h1 147 (by decide), st_r _ _ _ (by decide)]
    refine st_rw2 ?_ _ _
    rw [st_r _ _ _ (by decide)]; exact hN 147 (by decide) (by decide) (by decide)
  · rw [st_r _ _ _ (by decide), h1 148 (by decide)]
    refine st_rw2 ?_ _ _
    rw [st_r _ _ _ (by decide), st_r _ _ _ (by decide)]; exact hN 148 (by decide) (by decide) (by decide)
  · rw [st_r _ _ _ (by decide)]; exact h2 j hj
  · rw [st_r _ _ _ (by decide)]; exact h3 b hb

set_option maxHeartbeats 4000000 in
set_option maxRecDepth 100000 in
/-- model submit -/
theorem kX6_submit (l : Launch) {D : va_G} {cy ad : Nat → Nat} {n : Nat} {M : Mm} {A : Nat → Prop} (hD : ∀ M, va_D A (wd cy ad n M ++ [])) (hn : 154 ≤ n) {rg tp mo : Int32} {rc tc d : Nat} {rs sc : Nat → Nat} (hrc : M 137 5 = nI rc) (hrc8 : rc ≤ 8) (htc : M 137 8 = nI tc) (htc6 : tc ≤ 6) (htb : tbP M) (hmr : mrP rc rs M) (hmb : mbP tc M) (hd : M 137 16 = nI d) (hd8 : d ≤ 8) (hd2 : 2 ≤ d) (hsc : ∀ t, t < tc → M 146 t = nI (sc t) ∧ sc t ≤ 8) : Met l yX6_submit wsX6_submit ({ frames := 4, cells := 0, slots := 0, locals := 90 }) (va_Pc [.ref (ad 137), .int rg, .int tp, .int mo] (RW D cy (wd cy ad n M ++ []) A)) (va_Qi (S := Mm) (fun r u => ((0 ≤ rg.toInt ∧ rg.toInt < (rc : Int)) ∧ (0 ≤ tp.toInt ∧ tp.toInt < (tc : Int)) ∧ M 145 (vN tp) = 0 ∧ (d = 2 + rs (vN rg) ∧ gdP (rs (vN rg)) (fun j => M 142 (6 * vN rg + j)) (M 143 (vN tp)) mo (tB (M 143 (vN tp))) (M 150)) ∧ ¬ (∃ k, k < sc (vN tp) ∧ M 149 (8 * (8 * vN tp + k) + 1) = M 150 1) ∧ sc (vN tp) < 8 ∧ r = nI (sc (vN tp) + 1) ∧ sbP M u (vN tp) (sc (vN tp)) d rg mo) ∨ (¬ ((0 ≤ rg.toInt ∧ rg.toInt < (rc : Int)) ∧ (0 ≤ tp.toInt ∧ tp.toInt < (tc : Int))) ∧ scM (st M 137 0 (nI 1)) u) ∨ ((0 ≤ rg.toInt ∧ rg.toInt < (rc : Int)) ∧ (0 ≤ tp.toInt ∧ tp.toInt < (tc : Int)) ∧ ¬ M 145 (vN tp) = 0 ∧ scM (st M 137 0 (nI 2)) u) ∨ ((0 ≤ rg.toInt ∧ rg.toInt < (rc : Int)) ∧ (0 ≤ tp.toInt ∧ tp.toInt < (tc : Int)) ∧ M 145 (vN tp) = 0 ∧ ¬ (d = 2 + rs (vN rg) ∧ gdP (rs (vN rg)) (fun j => M 142 (6 * vN rg + j)) (M 143 (vN tp)) mo (tB (M 143 (vN tp))) (M 150)) ∧ scM (st M 137 0 (nI 1)) u) ∨ ((0 ≤ rg.toInt ∧ rg.toInt < (rc : Int)) ∧ (0 ≤ tp.toInt ∧ tp.toInt < (tc : Int)) ∧ M 145 (vN tp) = 0 ∧ (d = 2 + rs (vN rg) ∧ gdP (rs (vN rg)) (fun j => M 142 (6 * vN rg + j)) (M 143 (vN tp)) mo (tB (M 143 (vN tp))) (M 150)) ∧ ((∃ k, k < sc (vN tp) ∧ M 149 (8 * (8 * vN tp + k) + 1) = M 150 1) ∨ sc (vN tp) = 8) ∧ scM (st M 137 0 (nI 3)) u)) (fun u t => va_P D vwCl (wd cy ad n u ++ []) t.heap) A) 0 0 A := by
  refine Met.ofW (cc := cX6_submit) (maxL := 7) (ret := (some .int)) (by decide +kernel) rfl ?_
  intro p e s m args below meth c s₁ B hml hv
  obtain ⟨rfl, hP, hE, hA⟩ := hv
  have hx := B.exec
  have hb := B.bytes
  have hr := B.returns
  have hts := atoms_spec (ws := wsX6_submit) B.pre
  have hown : s.vm.findClass RX6 = some m.cls := findClass_of_methodNamed B.named
  have hlocks := B.notSynchronized
  have hf31 : (Cond.fieldLink RX6 31 "RingPetitionModel" "closed" "[Z").before #[.ref (ad 137), .int rg, .int tp, .int mo] s = true := hts _ (by decide +kernel)
  have hf35 : (Cond.fieldLink RX6 35 "RingPetitionModel" "stored" "[I").before #[.ref (ad 137), .int rg, .int tp, .int mo] s = true := hts _ (by decide +kernel)
  have hf38 : (Cond.fieldLink RX6 38 "RingPetitionModel" "signRing" "[I").before #[.ref (ad 137), .int rg, .int tp, .int mo] s = true := hts _ (by decide +kernel)
  have hf41 : (Cond.fieldLink RX6 41 "RingPetitionModel" "signMotion" "[I").before #[.ref (ad 137), .int rg, .int tp, .int mo] s = true := hts _ (by decide +kernel)
  have hf44 : (Cond.fieldLink RX6 44 "RingPetitionModel" "signed" "[I").before #[.ref (ad 137), .int rg, .int tp, .int mo] s = true := hts _ (by decide +kernel)
  have hf47 : (Cond.fieldLink RX6 47 "RingPetitionModel" "draftSize" "I").before #[.ref (ad 137), .int rg, .int tp, .int mo] s = true := hts _ (by decide +kernel)
  have hf51 : (Cond.fieldLink RX6 51 "RingPetitionModel" "drafted" "[I").before #[.ref (ad 137), .int rg, .int tp, .int mo] s = true := hts _ (by decide +kernel)
  have hf60 : (Cond.fieldLink RX6 60 "RingPetitionModel" "numbers" "[I").before #[.ref (ad 137), .int rg, .int tp, .int mo] s = true := hts _ (by decide +kernel)
  have hf63 : (Cond.fieldLink RX6 63 "RingPetitionModel" "thrown" "I").before #[.ref (ad 137), .int rg, .int tp, .int mo] s = true := hts _ (by decide +kernel)
  have hf78 : (Cond.fieldLink RX6 78 "RingPetitionModel" "n" "I").before #[.ref (ad 137), .int rg, .int tp, .int mo] s = true := hts _ (by decide +kernel)
  have hin_RX6 : ∀ w ∈ u_ws RX6 TX6 27, w ∈ wsX6_submit := by decide +kernel
  have hS : va_S A s.heap s.heap [] := va_S.rf
  have hl := lv_entry ([.ref (ad 137), .int rg, .int tp, .int mo]) (n := 7) (Nat.le_of_ble_eq_true rfl)
  rw [lg_entry_eq]
  generalize (lg_sl ([.ref (ad 137), .int rg, .int tp, .int mo]) ++ List.replicate (7 - (lg_sl ([.ref (ad 137), .int rg, .int tp, .int mo])).length) Slot.unset).toArray = ls at hl ⊢
  have hl : lv_has ls 7 [(0, .ref (ad 137)), (1, .int rg), (2, .int tp), (3, .int mo)] := hl
  refine lv_aload_n hx hb dX6_submit_0 rfl (lv_at hl 0 rfl) ?_
  refine lv_aload_n hx hb dX6_submit_1 rfl (lv_at hl 0 rfl) ?_
  refine lv_iload_n hx hb dX6_submit_2 rfl (lv_at hl 1 rfl) ?_
  refine vp_callSi (W.runV (As := [.int rg]) (rest := [.ref (ad 137)]) ⟨hx, hb, hml, hown, hts⟩ (kX6_noRing l hn hrc hrc8) (cwV 1 hts gX6_submit_X6_noRing rfl rfl rfl (by decide +kernel) ⟨Nat.le_of_ble_eq_true rfl, Nat.le_of_ble_eq_true rfl⟩) (ro_pv (ci := 5) (q := (RX6, TX6, 27)) hE hP rfl (wd_at (M := M) (show 137 < n by omega) ((g_137 cy ad) _))) rfl rfl hl.1 rfl (lv_room (Nat.le_of_ble_eq_true rfl)) dX6_submit_3 ⟨Nat.le_of_ble_eq_true rfl, Nat.le_of_ble_eq_true rfl⟩) (fun r_3 hr_3 => ?_)
  rcases hr_3 with ⟨hq_3, rfl⟩ | ⟨hq_3, rfl⟩
  · refine lv_if_ne (tgt := 17) hx hb dX6_submit_6 (by decide) (fun c_6 => ?_) (fun c_6 => ?_)
    · have c_6 := mt (o_eq0 _).mpr c_6
      refine lv_iconst (v := (nI 1)) hx hb dX6_submit_17 (by decide) ?_
      refine lv_goto (tgt := 22) hx hb dX6_submit_18 (by decide) ?_
      refine wr_put (cy := cy) (ad := ad) (ex := []) (ci := 5) (C := RX6) (T := TX6) (N := 27) (ty := .int) hx hb hts hin_RX6 tyX6 tyX6_ok nmX6 hown hE.1 hP hD hS 137 (show 137 < n by omega) ((g_137 cy ad) _) rfl 0 (by decide) hf63 (fun _ h9 => h9) rfl (by decide +kernel) rfl rfl (by simp) (((g_137 cy ad) _).trans (by simp [st_at])) dX6_submit_22 (fun H locs hP hS => ?_)
      refine lv_aload_n hx hb dX6_submit_25 rfl (lv_at hl 0 rfl) ?_
      refine va_get (D := D) (ci := 5) (v := .int ((st M 137 0 (nI 1)) 137 0)) (C := RX6) (T := TX6) (N := 27) hx hb hts hin_RX6 hown hE.1 hP 137 (wd_at (M := (st M 137 0 (nI 1))) (show 137 < n by omega) ((g_137 cy ad) _)) rfl 0 (by decide) hf63 (fun _ h9 => h9) rfl dX6_submit_26 ?_
      refine wr_top (y := (nI 1)) (st_s _ _ _ _) ?_
      refine lv_if_eq (tgt := 34) hx hb dX6_submit_29 (by decide) (fun c_29 => ?_) (fun c_29 => ?_)
      · exact absurd c_29 (by decide)
      · have c_29 := mt (o_eq0 _).mpr c_29
        rw [nI_toInt (by omega)] at c_29
        refine lv_iconst (v := (nI 0)) hx hb dX6_submit_32 (by decide) ?_
        exact W.iret (v := (nI 0)) hx hb hr (fun t ht hW => ⟨⟨(nI 0), (st M 137 0 (nI 1)), rfl, Or.inr (Or.inl ⟨fun h => by have := h.1; have := h.2; omega, sc_rf _⟩), (by show va_P D vwCl _ t.heap; rw [ht]; exact hP)⟩, hS.F ht⟩) hS.2.2 dX6_submit_33
    · exact absurd c_6 (by decide)
  · refine lv_if_ne (tgt := 17) hx hb dX6_submit_6 (by decide) (fun c_6 => ?_) (fun c_6 => ?_)
    · exact absurd c_6 (by decide)
    · have c_6 := (o_eq0 _).mp c_6
      refine lv_aload_n hx hb dX6_submit_9 rfl (lv_at hl 0 rfl) ?_
      refine lv_iload_n hx hb dX6_submit_10 rfl (lv_at hl 2 rfl) ?_
      refine vp_callSi (W.runV (As := [.int tp]) (rest := [.ref (ad 137)]) ⟨hx, hb, hml, hown, hts⟩ (kX6_noTopic l hn htc (by omega)) (cwV 1 hts gX6_submit_X6_noTopic rfl rfl rfl (by decide +kernel) ⟨Nat.le_of_ble_eq_true rfl, Nat.le_of_ble_eq_true rfl⟩) (ro_pv (ci := 5) (q := (RX6, TX6, 27)) hE hP rfl (wd_at (M := M) (show 137 < n by omega) ((g_137 cy ad) _))) rfl rfl hl.1 rfl (lv_room (Nat.le_of_ble_eq_true rfl)) dX6_submit_11 ⟨Nat.le_of_ble_eq_true rfl, Nat.le_of_ble_eq_true rfl⟩) (fun r_11 hr_11 => ?_)
      rcases hr_11 with ⟨hq_11, rfl⟩ | ⟨hq_11, rfl⟩
      · refine lv_if_eq (tgt := 21) hx hb dX6_submit_14 (by decide) (fun c_14 => ?_) (fun c_14 => ?_)
        · exact absurd c_14 (by decide)
        · have c_14 := mt (o_eq0 _).mpr c_14
          refine lv_iconst (v := (nI 1)) hx hb dX6_submit_17 (by decide) ?_
          refine lv_goto (tgt := 22) hx hb dX6_submit_18 (by decide) ?_
          refine wr_put (cy := cy) (ad := ad) (ex := []) (ci := 5) (C := RX6) (T := TX6) (N := 27) (ty := .int) hx hb hts hin_RX6 tyX6 tyX6_ok nmX6 hown hE.1 hP hD hS 137 (show 137 < n by omega) ((g_137 cy ad) _) rfl 0 (by decide) hf63 (fun _ h9 => h9) rfl (by decide +kernel) rfl rfl (by simp) (((g_137 cy ad) _).trans (by simp [st_at])) dX6_submit_22 (fun H locs hP hS => ?_)
          refine lv_aload_n hx hb dX6_submit_25 rfl (lv_at hl 0 rfl) ?_
          refine va_get (D := D) (ci := 5) (v := .int ((st M 137 0 (nI 1)) 137 0)) (C := RX6) (T := TX6) (N := 27) hx hb hts hin_RX6 hown hE.1 hP 137 (wd_at (M := (st M 137 0 (nI 1))) (show 137 < n by omega) ((g_137 cy ad) _)) rfl 0 (by decide) hf63 (fun _ h9 => h9) rfl dX6_submit_26 ?_
          refine wr_top (y := (nI 1)) (st_s _ _ _ _) ?_
          refine lv_if_eq (tgt := 34) hx hb dX6_submit_29 (by decide) (fun c_29 => ?_) (fun c_29 => ?_)
          · exact absurd c_29 (by decide)
          · have c_29 := mt (o_eq0 _).mpr c_29
            rw [nI_toInt (by omega)] at c_29
            refine lv_iconst (v := (nI 0)) hx hb dX6_submit_32 (by decide) ?_
            exact W.iret (v := (nI 0)) hx hb hr (fun t ht hW => ⟨⟨(nI 0), (st M 137 0 (nI 1)), rfl, Or.inr (Or.inl ⟨fun h => by have := h.1; have := h.2; omega, sc_rf _⟩), (by show va_P D vwCl _ t.heap; rw [ht]; exact hP)⟩, hS.F ht⟩) hS.2.2 dX6_submit_33
      · refine lv_if_eq (tgt := 21) hx hb dX6_submit_14 (by decide) (fun c_14 => ?_) (fun c_14 => ?_)
        · have c_14 := (o_eq0 _).mp c_14
          refine lv_iconst (v := (nI 0)) hx hb dX6_submit_21 (by decide) ?_
          refine wr_put (cy := cy) (ad := ad) (ex := []) (ci := 5) (C := RX6) (T := TX6) (N := 27) (ty := .int) hx hb hts hin_RX6 tyX6 tyX6_ok nmX6 hown hE.1 hP hD hS 137 (show 137 < n by omega) ((g_137 cy ad) _) rfl 0 (by decide) hf63 (fun _ h9 => h9) rfl (by decide +kernel) rfl rfl (by simp) (((g_137 cy ad) _).trans (by simp [st_at])) dX6_submit_22 (fun H locs hP hS => ?_)
          refine lv_aload_n hx hb dX6_submit_25 rfl (lv_at hl 0 rfl) ?_
          refine va_get (D := D) (ci := 5) (v := .int ((st M 137 0 (nI 0)) 137 0)) (C := RX6) (T := TX6) (N := 27) hx hb hts hin_RX6 hown hE.1 hP 137 (wd_at (M := (st M 137 0 (nI 0))) (show 137 < n by omega) ((g_137 cy ad) _)) rfl 0 (by decide) hf63 (fun _ h9 => h9) rfl dX6_submit_26 ?_
          refine wr_top (y := (nI 0)) (st_s _ _ _ _) ?_
          refine lv_if_eq (tgt := 34) hx hb dX6_submit_29 (by decide) (fun c_29 => ?_) (fun c_29 => ?_)
          · have c_29 := (o_eq0 _).mp c_29
            rw [nI_toInt (by omega)] at c_29
            refine lv_aload_n hx hb dX6_submit_34 rfl (lv_at hl 0 rfl) ?_
            refine va_get (D := D) (ci := 5) (v := .ref (ad 145)) (C := RX6) (T := TX6) (N := 27) hx hb hts hin_RX6 hown hE.1 hP 137 (wd_at (M := (st M 137 0 (nI 0))) (show 137 < n by omega) ((g_137 cy ad) _)) rfl 11 (by decide) hf31 (fun _ h9 => h9) rfl dX6_submit_35 ?_
            refine lv_iload_n hx hb dX6_submit_38 rfl (lv_at hl 2 rfl) ?_
            refine wr_zald (cy := cy) (ad := ad) (ex := []) hx hb hE.1 hP 145 (show 145 < n by omega) ((g_145 cy ad) _) (vN tp) (x_vN (by omega)) (by rw [vN_toInt]; omega) (by decide) dX6_submit_39 ?_
            refine wr_top (y := (M 145 (vN tp))) (by rw [st_r _ _ _ (by decide)]) ?_
            refine lv_if_eq (tgt := 50) hx hb dX6_submit_40 (by decide) (fun c_40 => ?_) (fun c_40 => ?_)
            · have hr6 : vN rg < rc := by rw [vN_toInt]; omega
              have ht6 : vN tp < tc := by rw [vN_toInt]; omega
              obtain ⟨hm3, hm4, hm5⟩ := hmr _ hr6
              obtain ⟨hs1, hs2⟩ := hsc _ ht6
              have hmbt := hmb _ ht6
              refine lv_aload_n hx hb dX6_submit_50 rfl (lv_at hl 0 rfl) ?_
              refine lv_iload_n hx hb dX6_submit_51 rfl (lv_at hl 1 rfl) ?_
              refine wr_top (y := (nI (vN rg))) (x_vN (by omega)) ?_
              refine lv_iload_n hx hb dX6_submit_52 rfl (lv_at hl 2 rfl) ?_
              refine wr_top (y := (nI (vN tp))) (x_vN (by omega)) ?_
              refine lv_iload_n hx hb dX6_submit_53 rfl (lv_at hl 3 rfl) ?_
              refine va_callv (va_runV (As := [.int (nI (vN rg)), .int (nI (vN tp)), .int mo]) (rest := []) ⟨hx, hb, hml, hown, hts⟩ (kX6_look l (M := (st M 137 0 (nI 0))) hD hn (z := rs (vN rg)) (rq := vN rg) (tq := vN tp) (by rw [st_r _ _ _ (by decide)]; exact hm3) hm4 (by omega) (by omega)) (cwV 3 hts gX6_submit_X6_look rfl rfl rfl (by decide +kernel) ⟨Nat.le_of_ble_eq_true rfl, Nat.le_of_ble_eq_true rfl⟩) (rw_pv (ci := 5) (q := (RX6, TX6, 27)) hE hP hS hA rfl (wd_at (M := (st M 137 0 (nI 0))) (show 137 < n by omega) ((g_137 cy ad) _))) rfl rfl hl.1 rfl (lv_room (Nat.le_of_ble_eq_true rfl)) dX6_submit_54 ⟨Nat.le_of_ble_eq_true rfl, Nat.le_of_ble_eq_true rfl⟩) hS (fun q _ h => h) (fun q h => h) (fun u_54 t H1 locs ht hvm hr_54 hB_54 hz1 hk1 hS => ?_)
              have hP : va_P D vwCl (wd cy ad n u_54 ++ []) H1 := by rw [← ht]; exact hB_54
              clear hB_54 ht hvm hz1 hk1
              generalize H1 = H at hP hS ⊢
              refine lv_iconst (v := (nI 0)) hx hb dX6_submit_57 (by decide) ?_
              refine lv_istore (lv' := [(4, .int (nI 0)), (0, .ref (ad 137)), (1, .int rg), (2, .int tp), (3, .int mo)]) hx hb dX6_submit_58 hl (by decide) rfl (fun ls hl => ?_)
              refine wloopW (fun kq (xq : Nat × Mm) H locs ls => match xq with | (i, Mk) => kq = d - i ∧ (i ≤ d ∧ (∀ a, a ≠ 153 → Mk a = u_54 a) ∧ ∀ j, j < i → Mk 153 j = M 150 j) ∧ va_P D vwCl (wd cy ad n Mk ++ []) H ∧ va_S A s.heap H locs ∧ lv_has ls 7 [(4, .int (nI i)), (0, .ref (ad 137)), (1, .int rg), (2, .int tp), (3, .int mo)]) (fun k60 x60 H locs ls h60 ih60 => ?_) _ (0, u_54) _ _ ls ⟨rfl, ⟨Nat.zero_le _, fun _ _ => rfl, fun j h => absurd h (Nat.not_lt_zero j)⟩, hP, hS, lv_sub hl [0, 1, 2, 3, 4] rfl⟩
              obtain ⟨i, Mk⟩ := x60
              obtain ⟨hk60, hI, hP, hS, hl⟩ := h60
              refine lv_iload hx hb dX6_submit_60 (lv_at hl 0 rfl) ?_
              refine lv_aload_n hx hb dX6_submit_62 rfl (lv_at hl 1 rfl) ?_
              refine va_get (D := D) (ci := 5) (v := .int (Mk 137 16)) (C := RX6) (T := TX6) (N := 27) hx hb hts hin_RX6 hown hE.1 hP 137 (wd_at (M := Mk) (show 137 < n by omega) ((g_137 cy ad) _)) rfl 16 (by decide) hf47 (fun _ h9 => h9) rfl dX6_submit_63 ?_
              refine wr_top (y := (u_54 137 16)) (by rw [hI.2.1 _ (by decide)]) ?_
              refine wr_top (y := ((st M 137 0 (nI 0)) 137 16)) (hr_54.2.1 _ (by decide) (by decide) (by decide) (by decide)) ?_
              refine wr_top (y := (M 137 16)) (st_c _ _ _ (by decide)) ?_
              refine wr_top (y := (nI d)) hd ?_
              refine lv_icmp_ge (tgt := 89) hx hb dX6_submit_66 (by decide) (fun c_66 => ?_) (fun c_66 => ?_)
              · have c_66 := (nI_leI (by omega) (by omega)).mp c_66
                have hsk := sc_lk hr_54 hI.2.1
                refine lv_aload_n hx hb dX6_submit_89 rfl (lv_at hl 1 rfl) ?_
                refine va_get (D := D) (ci := 5) (v := .int (Mk 137 16)) (C := RX6) (T := TX6) (N := 27) hx hb hts hin_RX6 hown hE.1 hP 137 (wd_at (M := Mk) (show 137 < n by omega) ((g_137 cy ad) _)) rfl 16 (by decide) hf47 (fun _ h9 => h9) rfl dX6_submit_90 ?_
                refine wr_top (y := (u_54 137 16)) (by rw [hI.2.1 _ (by decide)]) ?_
                refine wr_top (y := ((st M 137 0 (nI 0)) 137 16)) (hr_54.2.1 _ (by decide) (by decide) (by decide) (by decide)) ?_
                refine wr_top (y := (M 137 16)) (st_c _ _ _ (by decide)) ?_
                refine wr_top (y := (nI d)) hd ?_
                refine lv_iconst (v := (nI 2)) hx hb dX6_submit_93 (by decide) ?_
                refine lv_aload_n hx hb dX6_submit_94 rfl (lv_at hl 1 rfl) ?_
                refine va_get (D := D) (ci := 5) (v := .int (Mk 137 20)) (C := RX6) (T := TX6) (N := 27) hx hb hts hin_RX6 hown hE.1 hP 137 (wd_at (M := Mk) (show 137 < n by omega) ((g_137 cy ad) _)) rfl 20 (by decide) hf78 (fun _ h9 => h9) rfl dX6_submit_95 ?_
                refine wr_top (y := (u_54 137 20)) (by rw [hI.2.1 _ (by decide)]) ?_
                refine wr_top (y := (nI (rs (vN rg)))) hr_54.2.2.1 ?_
                refine lv_iadd hx hb dX6_submit_98 ?_
                refine wr_top (y := (nI (2 + (rs (vN rg))))) (nI_add _ _) ?_
                refine lv_icmp_ne (tgt := 113) hx hb dX6_submit_99 (by decide) (fun c_99 => ?_) (fun c_99 => ?_)
                · have c_99 := mt (nI_eq (by omega) (by omega)).mpr c_99
                  refine lv_iconst (v := (nI 0)) hx hb dX6_submit_113 (by decide) ?_
                  refine lv_istore (lv' := [(4, .int (nI 0)), (0, .ref (ad 137)), (1, .int rg), (2, .int tp), (3, .int mo)]) hx hb dX6_submit_114 hl (by decide) rfl (fun ls hl => ?_)
                  refine lv_aload_n hx hb dX6_submit_116 rfl (lv_at hl 1 rfl) ?_
                  refine lv_iload hx hb dX6_submit_117 (lv_at hl 0 rfl) ?_
                  refine lv_if_ne (tgt := 126) hx hb dX6_submit_119 (by decide) (fun c_119 => ?_) (fun c_119 => ?_)
                  · exact absurd c_119 (by decide)
                  · have c_119 := (o_eq0 _).mp c_119
                    rw [nI_toInt (by omega)] at c_119
                    refine lv_iconst (v := (nI 1)) hx hb dX6_submit_122 (by decide) ?_
                    refine lv_goto (tgt := 162) hx hb dX6_submit_123 (by decide) ?_
                    refine wr_put (cy := cy) (ad := ad) (ex := []) (ci := 5) (C := RX6) (T := TX6) (N := 27) (ty := .int) hx hb hts hin_RX6 tyX6 tyX6_ok nmX6 hown hE.1 hP hD hS 137 (show 137 < n by omega) ((g_137 cy ad) _) rfl 0 (by decide) hf63 (fun _ h9 => h9) rfl (by decide +kernel) rfl rfl (by simp) (((g_137 cy ad) _).trans (by simp [st_at])) dX6_submit_162 (fun H locs hP hS => ?_)
                    refine lv_aload_n hx hb dX6_submit_165 rfl (lv_at hl 1 rfl) ?_
                    refine va_get (D := D) (ci := 5) (v := .int ((st Mk 137 0 (nI 1)) 137 0)) (C := RX6) (T := TX6) (N := 27) hx hb hts hin_RX6 hown hE.1 hP 137 (wd_at (M := (st Mk 137 0 (nI 1))) (show 137 < n by omega) ((g_137 cy ad) _)) rfl 0 (by decide) hf63 (fun _ h9 => h9) rfl dX6_submit_166 ?_
                    refine wr_top (y := (nI 1)) (st_s _ _ _ _) ?_
                    refine lv_if_eq (tgt := 174) hx hb dX6_submit_169 (by decide) (fun c_169 => ?_) (fun c_169 => ?_)
                    · exact absurd c_169 (by decide)
                    · have c_169 := mt (o_eq0 _).mpr c_169
                      rw [nI_toInt (by omega)] at c_169
                      refine lv_iconst (v := (nI 0)) hx hb dX6_submit_172 (by decide) ?_
                      exact W.iret (v := (nI 0)) hx hb hr (fun t ht hW => ⟨⟨(nI 0), (st Mk 137 0 (nI 1)), rfl, Or.inr (Or.inr (Or.inr (Or.inl ⟨⟨by omega, by omega⟩, ⟨by omega, by omega⟩, c_40, fun h => by have := h.1; omega, sc_th hsk⟩))), (by show va_P D vwCl _ t.heap; rw [ht]; exact hP)⟩, hS.F ht⟩) hS.2.2 dX6_submit_173
                · have c_99 := (nI_eq (by omega) (by omega)).mp c_99
                  refine lv_aload_n hx hb dX6_submit_102 rfl (lv_at hl 1 rfl) ?_
                  have hg := lk_gd (bB := tB (M 143 (vN tp))) hr_54 hI.2.1 (num := M 150) (fun j hj => hI.2.2 j (by omega))
                  rw [st_r _ _ _ (by decide), st_r _ _ _ (by decide)] at hg
                  have e20 : Mk 137 20 = nI (rs (vN rg)) := by rw [hI.2.1 137 (by decide)]; exact hr_54.2.2.1
                  have e22 : Mk 137 22 = nI (tB (M 143 (vN tp))) := by rw [hI.2.1 137 (by decide), hr_54.2.2.2.1, st_r _ _ _ (by decide)]; exact hmbt
                  have e152 : ∀ j, j < (rs (vN rg)) → eltN (vN (Mk 152 j)) = true := fun j hj => by rw [hI.2.1 152 (by decide), hr_54.2.2.2.2.2.2 j hj, st_r _ _ _ (by decide)]; exact hm5 j hj
                  refine va_calli (va_runV (As := []) (rest := []) ⟨hx, hb, hml, hown, hts⟩ (kX6_isGood l (M := Mk) hD hn (tb_sc (tb_sc htb s0_f) hsk.1) e20 hm4 e22 (tB_el _) e152) (cwV 0 hts gX6_submit_X6_isGood rfl rfl rfl (by decide +kernel) ⟨Nat.le_of_ble_eq_true rfl, Nat.le_of_ble_eq_true rfl⟩) (rw_pv (ci := 5) (q := (RX6, TX6, 27)) hE hP hS hA rfl (wd_at (M := Mk) (show 137 < n by omega) ((g_137 cy ad) _))) rfl rfl hl.1 rfl (lv_room (Nat.le_of_ble_eq_true rfl)) dX6_submit_103 ⟨Nat.le_of_ble_eq_true rfl, Nat.le_of_ble_eq_true rfl⟩) hS (fun q _ h => h) (fun q h => h) (fun r_103 u_103 t H1 locs ht hvm hr_103 hB_103 hz1 hk1 hS => ?_)
                  have hP : va_P D vwCl (wd cy ad n u_103 ++ []) H1 := by rw [← ht]; exact hB_103
                  clear hB_103 ht hvm hz1 hk1
                  generalize H1 = H at hP hS ⊢
                  obtain ⟨hr_103, hmx⟩ := hr_103
                  have hr_103 := bP_iff hg hr_103
                  have hsu := sc_tr hsk (sc_mx hmx)
                  rcases hr_103 with ⟨hq_103, rfl⟩ | ⟨hq_103, rfl⟩
                  · refine lv_if_eq (tgt := 113) hx hb dX6_submit_106 (by decide) (fun c_106 => ?_) (fun c_106 => ?_)
                    · exact absurd c_106 (by decide)
                    · have c_106 := mt (o_eq0 _).mpr c_106
                      refine lv_iconst (v := (nI 1)) hx hb dX6_submit_109 (by decide) ?_
                      refine lv_goto (tgt := 114) hx hb dX6_submit_110 (by decide) ?_
                      refine lv_istore (lv' := [(4, .int (nI 1)), (0, .ref (ad 137)), (1, .int rg), (2, .int tp), (3, .int mo)]) hx hb dX6_submit_114 hl (by decide) rfl (fun ls hl => ?_)
                      refine lv_aload_n hx hb dX6_submit_116 rfl (lv_at hl 1 rfl) ?_
                      refine lv_iload hx hb dX6_submit_117 (lv_at hl 0 rfl) ?_
                      refine lv_if_ne (tgt := 126) hx hb dX6_submit_119 (by decide) (fun c_119 => ?_) (fun c_119 => ?_)
                      · have c_119 := mt (o_eq0 _).mpr c_119
                        rw [nI_toInt (by omega)] at c_119
                        refine lv_aload_n hx hb dX6_submit_126 rfl (lv_at hl 1 rfl) ?_
                        refine lv_iload_n hx hb dX6_submit_127 rfl (lv_at hl 3 rfl) ?_
                        refine wr_top (y := (nI (vN tp))) (x_vN (by omega)) ?_
                        refine lv_aload_n hx hb dX6_submit_128 rfl (lv_at hl 1 rfl) ?_
                        refine va_get (D := D) (ci := 5) (v := .ref (ad 150)) (C := RX6) (T := TX6) (N := 27) hx hb hts hin_RX6 hown hE.1 hP 137 (wd_at (M := u_103) (show 137 < n by omega) ((g_137 cy ad) _)) rfl 17 (by decide) hf51 (fun _ h9 => h9) rfl dX6_submit_129 ?_
                        refine lv_iconst (v := (nI 1)) hx hb dX6_submit_132 (by decide) ?_
                        refine wr_ald (cy := cy) (ad := ad) (ex := []) hx hb hE.1 hP 150 (show 150 < n by omega) ((g_150 cy ad) _) 1 rfl (by omega) (by decide) dX6_submit_133 ?_
                        refine wr_top (y := (Mk 150 1)) (by rw [hmx.1 _ (by decide)]) ?_
                        refine wr_top (y := (u_54 150 1)) (by rw [hI.2.1 _ (by decide)]) ?_
                        refine wr_top (y := ((st M 137 0 (nI 0)) 150 1)) (by rw [hr_54.1 _ (by decide) (by decide)]) ?_
                        refine wr_top (y := (M 150 1)) (by rw [st_r _ _ _ (by decide)]) ?_
                        refine lv_aload_n hx hb dX6_submit_134 rfl (lv_at hl 1 rfl) ?_
                        refine va_get (D := D) (ci := 5) (v := .ref (ad 146)) (C := RX6) (T := TX6) (N := 27) hx hb hts hin_RX6 hown hE.1 hP 137 (wd_at (M := u_103) (show 137 < n by omega) ((g_137 cy ad) _)) rfl 12 (by decide) hf35 (fun _ h9 => h9) rfl dX6_submit_135 ?_
                        refine lv_iload_n hx hb dX6_submit_138 rfl (lv_at hl 3 rfl) ?_
                        refine wr_ald (cy := cy) (ad := ad) (ex := []) hx hb hE.1 hP 146 (show 146 < n by omega) ((g_146 cy ad) _) (vN tp) (x_vN (by omega)) (by omega) (by decide) dX6_submit_139 ?_
                        refine wr_top (y := (Mk 146 (vN tp))) (by rw [hmx.1 _ (by decide)]) ?_
                        refine wr_top (y := (u_54 146 (vN tp))) (by rw [hI.2.1 _ (by decide)]) ?_
                        refine wr_top (y := ((st M 137 0 (nI 0)) 146 (vN tp))) (by rw [hr_54.1 _ (by decide) (by decide)]) ?_
                        refine wr_top (y := (M 146 (vN tp))) (by rw [st_r _ _ _ (by decide)]) ?_
                        refine wr_top (y := (nI (sc (vN tp)))) hs1 ?_
                        have e149 : u_103 149 = M 149 := (hsu.1 149 (by decide) (by decide) (by decide)).trans (st_r _ _ _ (by decide))
                        refine vp_callSi (W.runV (As := [.int (nI (vN tp)), .int (M 150 1), .int (nI (sc (vN tp)))]) (rest := [.ref (ad 137)]) ⟨hx, hb, hml, hown, hts⟩ (kX6_hasTag l hn (M := u_103) (tq := vN tp) (b := sc (vN tp)) (by omega) hs2) (cwV 3 hts gX6_submit_X6_hasTag rfl rfl rfl (by decide +kernel) ⟨Nat.le_of_ble_eq_true rfl, Nat.le_of_ble_eq_true rfl⟩) (ro_pv (ci := 5) (q := (RX6, TX6, 27)) hE hP rfl (wd_at (M := u_103) (show 137 < n by omega) ((g_137 cy ad) _))) rfl rfl hl.1 rfl (lv_room (Nat.le_of_ble_eq_true rfl)) dX6_submit_140 ⟨Nat.le_of_ble_eq_true rfl, Nat.le_of_ble_eq_true rfl⟩) (fun r_140 hr_140 => ?_)
                        rw [e149] at hr_140
                        rcases hr_140 with ⟨hq_140, rfl⟩ | ⟨hq_140, rfl⟩
                        · refine lv_if_ne (tgt := 157) hx hb dX6_submit_143 (by decide) (fun c_143 => ?_) (fun c_143 => ?_)
                          · have c_143 := mt (o_eq0 _).mpr c_143
                            refine lv_iconst (v := (nI 3)) hx hb dX6_submit_157 (by decide) ?_
                            refine lv_goto (tgt := 162) hx hb dX6_submit_158 (by decide) ?_
                            refine wr_put (cy := cy) (ad := ad) (ex := []) (ci := 5) (C := RX6) (T := TX6) (N := 27) (ty := .int) hx hb hts hin_RX6 tyX6 tyX6_ok nmX6 hown hE.1 hP hD hS 137 (show 137 < n by omega) ((g_137 cy ad) _) rfl 0 (by decide) hf63 (fun _ h9 => h9) rfl (by decide +kernel) rfl rfl (by simp) (((g_137 cy ad) _).trans (by simp [st_at])) dX6_submit_162 (fun H locs hP hS => ?_)
                            refine lv_aload_n hx hb dX6_submit_165 rfl (lv_at hl 1 rfl) ?_
                            refine va_get (D := D) (ci := 5) (v := .int ((st u_103 137 0 (nI 3)) 137 0)) (C := RX6) (T := TX6) (N := 27) hx hb hts hin_RX6 hown hE.1 hP 137 (wd_at (M := (st u_103 137 0 (nI 3))) (show 137 < n by omega) ((g_137 cy ad) _)) rfl 0 (by decide) hf63 (fun _ h9 => h9) rfl dX6_submit_166 ?_
                            refine wr_top (y := (nI 3)) (st_s _ _ _ _) ?_
                            refine lv_if_eq (tgt := 174) hx hb dX6_submit_169 (by decide) (fun c_169 => ?_) (fun c_169 => ?_)
                            · exact absurd c_169 (by decide)
                            · have c_169 := mt (o_eq0 _).mpr c_169
                              rw [nI_toInt (by omega)] at c_169
                              refine lv_iconst (v := (nI 0)) hx hb dX6_submit_172 (by decide) ?_
                              exact W.iret (v := (nI 0)) hx hb hr (fun t ht hW => ⟨⟨(nI 0), (st u_103 137 0 (nI 3)), rfl, Or.inr (Or.inr (Or.inr (Or.inr ⟨⟨by omega, by omega⟩, ⟨by omega, by omega⟩, c_40, ⟨by omega, hq_103⟩, Or.inl hq_140, sc_th hsu⟩))), (by show va_P D vwCl _ t.heap; rw [ht]; exact hP)⟩, hS.F ht⟩) hS.2.2 dX6_submit_173
                          · exact absurd c_143 (by decide)
                        · refine lv_if_ne (tgt := 157) hx hb dX6_submit_143 (by decide) (fun c_143 => ?_) (fun c_143 => ?_)
                          · exact absurd c_143 (by decide)
                          · have c_143 := (o_eq0 _).mp c_143
                            refine lv_aload_n hx hb dX6_submit_146 rfl (lv_at hl 1 rfl) ?_
                            refine va_get (D := D) (ci := 5) (v := .ref (ad 146)) (C := RX6) (T := TX6) (N := 27) hx hb hts hin_RX6 hown hE.1 hP 137 (wd_at (M := u_103) (show 137 < n by omega) ((g_137 cy ad) _)) rfl 12 (by decide) hf35 (fun _ h9 => h9) rfl dX6_submit_147 ?_
                            refine lv_iload_n hx hb dX6_submit_150 rfl (lv_at hl 3 rfl) ?_
                            refine wr_ald (cy := cy) (ad := ad) (ex := []) hx hb hE.1 hP 146 (show 146 < n by omega) ((g_146 cy ad) _) (vN tp) (x_vN (by omega)) (by omega) (by decide) dX6_submit_151 ?_
                            refine wr_top (y := (Mk 146 (vN tp))) (by rw [hmx.1 _ (by decide)]) ?_
                            refine wr_top (y := (u_54 146 (vN tp))) (by rw [hI.2.1 _ (by decide)]) ?_
                            refine wr_top (y := ((st M 137 0 (nI 0)) 146 (vN tp))) (by rw [hr_54.1 _ (by decide) (by decide)]) ?_
                            refine wr_top (y := (M 146 (vN tp))) (by rw [st_r _ _ _ (by decide)]) ?_
                            refine wr_top (y := (nI (sc (vN tp)))) hs1 ?_
                            refine lv_bipush (v := (nI 8)) hx hb dX6_submit_152 (by decide) ?_
                            refine lv_icmp_ne (tgt := 161) hx hb dX6_submit_154 (by decide) (fun c_154 => ?_) (fun c_154 => ?_)
                            · have c_154 := mt (nI_eq (by omega) (by omega)).mpr c_154
                              refine lv_iconst (v := (nI 0)) hx hb dX6_submit_161 (by decide) ?_
                              refine wr_put (cy := cy) (ad := ad) (ex := []) (ci := 5) (C := RX6) (T := TX6) (N := 27) (ty := .int) hx hb hts hin_RX6 tyX6 tyX6_ok nmX6 hown hE.1 hP hD hS 137 (show 137 < n by omega) ((g_137 cy ad) _) rfl 0 (by decide) hf63 (fun _ h9 => h9) rfl (by decide +kernel) rfl rfl (by simp) (((g_137 cy ad) _).trans (by simp [st_at])) dX6_submit_162 (fun H locs hP hS => ?_)
                              refine lv_aload_n hx hb dX6_submit_165 rfl (lv_at hl 1 rfl) ?_
                              refine va_get (D := D) (ci := 5) (v := .int ((st u_103 137 0 (nI 0)) 137 0)) (C := RX6) (T := TX6) (N := 27) hx hb hts hin_RX6 hown hE.1 hP 137 (wd_at (M := (st u_103 137 0 (nI 0))) (show 137 < n by omega) ((g_137 cy ad) _)) rfl 0 (by decide) hf63 (fun _ h9 => h9) rfl dX6_submit_166 ?_
                              refine wr_top (y := (nI 0)) (st_s _ _ _ _) ?_
                              refine lv_if_eq (tgt := 174) hx hb dX6_submit_169 (by decide) (fun c_169 => ?_) (fun c_169 => ?_)
                              · have c_169 := (o_eq0 _).mp c_169
                                rw [nI_toInt (by omega)] at c_169
                                refine lv_bipush (v := (nI 8)) hx hb dX6_submit_174 (by decide) ?_
                                refine lv_iload_n hx hb dX6_submit_176 rfl (lv_at hl 3 rfl) ?_
                                refine lv_imul hx hb dX6_submit_177 ?_
                                refine wr_top (y := (nI (8 * vN tp))) (xm_vN 8 (by omega)) ?_
                                refine lv_aload_n hx hb dX6_submit_178 rfl (lv_at hl 1 rfl) ?_
                                refine va_get (D := D) (ci := 5) (v := .ref (ad 146)) (C := RX6) (T := TX6) (N := 27) hx hb hts hin_RX6 hown hE.1 hP 137 (wd_at (M := (st u_103 137 0 (nI 0))) (show 137 < n by omega) ((g_137 cy ad) _)) rfl 12 (by decide) hf35 (fun _ h9 => h9) rfl dX6_submit_179 ?_
                                refine lv_iload_n hx hb dX6_submit_182 rfl (lv_at hl 3 rfl) ?_
                                refine wr_ald (cy := cy) (ad := ad) (ex := []) hx hb hE.1 hP 146 (show 146 < n by omega) ((g_146 cy ad) _) (vN tp) (x_vN (by omega)) (by omega) (by decide) dX6_submit_183 ?_
                                refine wr_top (y := (u_103 146 (vN tp))) (by rw [st_r _ _ _ (by decide)]) ?_
                                refine wr_top (y := (Mk 146 (vN tp))) (by rw [hmx.1 _ (by decide)]) ?_
                                refine wr_top (y := (u_54 146 (vN tp))) (by rw [hI.2.1 _ (by decide)]) ?_
                                refine wr_top (y := ((st M 137 0 (nI 0)) 146 (vN tp))) (by rw [hr_54.1 _ (by decide) (by decide)]) ?_
                                refine wr_top (y := (M 146 (vN tp))) (by rw [st_r _ _ _ (by decide)]) ?_
                                refine wr_top (y := (nI (sc (vN tp)))) hs1 ?_
                                refine lv_iadd hx hb dX6_submit_184 ?_
                                refine wr_top (y := (nI (8 * vN tp + sc (vN tp)))) (nI_add _ _) ?_
                                refine lv_istore (lv' := [(5, .int (nI (8 * vN tp + sc (vN tp)))), (4, .int (nI 1)), (0, .ref (ad 137)), (1, .int rg), (2, .int tp), (3, .int mo)]) hx hb dX6_submit_185 hl (by decide) rfl (fun ls hl => ?_)
                                refine lv_aload_n hx hb dX6_submit_187 rfl (lv_at hl 2 rfl) ?_
                                refine va_get (D := D) (ci := 5) (v := .ref (ad 147)) (C := RX6) (T := TX6) (N := 27) hx hb hts hin_RX6 hown hE.1 hP 137 (wd_at (M := (st u_103 137 0 (nI 0))) (show 137 < n by omega) ((g_137 cy ad) _)) rfl 13 (by decide) hf38 (fun _ h9 => h9) rfl dX6_submit_188 ?_
                                refine lv_iload hx hb dX6_submit_191 (lv_at hl 0 rfl) ?_
                                refine lv_iload_n hx hb dX6_submit_193 rfl (lv_at hl 3 rfl) ?_
                                refine wr_ast (cy := cy) (ad := ad) (ex := []) hx hb hE.1 hP hD hS 147 (show 147 < n by omega) (g_147 cy ad) (8 * vN tp + sc (vN tp)) rfl (by omega) (by decide) dX6_submit_194 (fun H locs hP hS => ?_)
                                refine lv_aload_n hx hb dX6_submit_195 rfl (lv_at hl 2 rfl) ?_
                                refine va_get (D := D) (ci := 5) (v := .ref (ad 148)) (C := RX6) (T := TX6) (N := 27) hx hb hts hin_RX6 hown hE.1 hP 137 (wd_at (M := (st (st u_103 137 0 (nI 0)) 147 (8 * vN tp + sc (vN tp)) rg)) (show 137 < n by omega) ((g_137 cy ad) _)) rfl 14 (by decide) hf41 (fun _ h9 => h9) rfl dX6_submit_196 ?_
                                refine lv_iload hx hb dX6_submit_199 (lv_at hl 0 rfl) ?_
                                refine lv_iload_n hx hb dX6_submit_201 rfl (lv_at hl 5 rfl) ?_
                                refine wr_ast (cy := cy) (ad := ad) (ex := []) hx hb hE.1 hP hD hS 148 (show 148 < n by omega) (g_148 cy ad) (8 * vN tp + sc (vN tp)) rfl (by omega) (by decide) dX6_submit_202 (fun H locs hP hS => ?_)
                                refine lv_iconst (v := (nI 0)) hx hb dX6_submit_203 (by decide) ?_
                                refine lv_istore (lv' := [(6, .int (nI 0)), (5, .int (nI (8 * vN tp + sc (vN tp)))), (4, .int (nI 1)), (0, .ref (ad 137)), (1, .int rg), (2, .int tp), (3, .int mo)]) hx hb dX6_submit_204 hl (by decide) rfl (fun ls hl => ?_)
                                refine wloopW (fun kq (xq : Nat × Mm) H locs ls => match xq with | (i2, Mj) => kq = d - i2 ∧ (i2 ≤ d ∧ (∀ a, a ≠ 149 → Mj a = (st (st (st u_103 137 0 (nI 0)) 147 (8 * vN tp + sc (vN tp)) rg) 148 (8 * vN tp + sc (vN tp)) mo) a) ∧ (∀ j, j < i2 → Mj 149 (8 * (8 * vN tp + sc (vN tp)) + j) = M 150 j) ∧ ∀ b, b < 8 * (8 * vN tp + sc (vN tp)) ∨ 8 * (8 * vN tp + sc (vN tp)) + 8 ≤ b → Mj 149 b = M 149 b) ∧ va_P D vwCl (wd cy ad n Mj ++ []) H ∧ va_S A s.heap H locs ∧ lv_has ls 7 [(6, .int (nI i2)), (0, .ref (ad 137)), (1, .int rg), (2, .int tp), (3, .int mo), (5, .int (nI (8 * vN tp + sc (vN tp))))]) (fun k206 x206 H locs ls h206 ih206 => ?_) _ (0, (st (st (st u_103 137 0 (nI 0)) 147 (8 * vN tp + sc (vN tp)) rg) 148 (8 * vN tp + sc (vN tp)) mo)) _ _ ls ⟨rfl, ⟨Nat.zero_le _, fun _ _ => rfl, fun j h => absurd h (Nat.not_lt_zero j), fun b _ => by rw [st_r _ _ _ (by decide), st_r _ _ _ (by decide), st_r _ _ _ (by decide), e149]⟩, hP, hS, lv_sub hl [0, 3, 4, 5, 6, 1] rfl⟩
                                obtain ⟨i2, Mj⟩ := x206
                                obtain ⟨hk206, hJ, hP, hS, hl⟩ := h206
                                refine lv_iload hx hb dX6_submit_206 (lv_at hl 0 rfl) ?_
                                refine lv_aload_n hx hb dX6_submit_208 rfl (lv_at hl 1 rfl) ?_
                                refine va_get (D := D) (ci := 5) (v := .int (Mj 137 16)) (C := RX6) (T := TX6) (N := 27) hx hb hts hin_RX6 hown hE.1 hP 137 (wd_at (M := Mj) (show 137 < n by omega) ((g_137 cy ad) _)) rfl 16 (by decide) hf47 (fun _ h9 => h9) rfl dX6_submit_209 ?_
                                refine wr_top (y := ((st (st (st u_103 137 0 (nI 0)) 147 (8 * vN tp + sc (vN tp)) rg) 148 (8 * vN tp + sc (vN tp)) mo) 137 16)) (by rw [hJ.2.1 _ (by decide)]) ?_
                                refine wr_top (y := ((st (st u_103 137 0 (nI 0)) 147 (8 * vN tp + sc (vN tp)) rg) 137 16)) (by rw [st_r _ _ _ (by decide)]) ?_
                                refine wr_top (y := ((st u_103 137 0 (nI 0)) 137 16)) (by rw [st_r _ _ _ (by decide)]) ?_
                                refine wr_top (y := (u_103 137 16)) (st_c _ _ _ (by decide)) ?_
                                refine wr_top (y := (Mk 137 16)) (hmx.2 _ (by decide)) ?_
                                refine wr_top (y := (u_54 137 16)) (by rw [hI.2.1 _ (by decide)]) ?_
                                refine wr_top (y := ((st M 137 0 (nI 0)) 137 16)) (hr_54.2.1 _ (by decide) (by decide) (by decide) (by decide)) ?_
                                refine wr_top (y := (M 137 16)) (st_c _ _ _ (by decide)) ?_
                                refine wr_top (y := (nI d)) hd ?_
                                refine lv_icmp_ge (tgt := 241) hx hb dX6_submit_212 (by decide) (fun c_212 => ?_) (fun c_212 => ?_)
                                · have c_212 := (nI_leI (by omega) (by omega)).mp c_212
                                  refine lv_aload_n hx hb dX6_submit_241 rfl (lv_at hl 1 rfl) ?_
                                  refine va_get (D := D) (ci := 5) (v := .ref (ad 146)) (C := RX6) (T := TX6) (N := 27) hx hb hts hin_RX6 hown hE.1 hP 137 (wd_at (M := Mj) (show 137 < n by omega) ((g_137 cy ad) _)) rfl 12 (by decide) hf35 (fun _ h9 => h9) rfl dX6_submit_242 ?_
                                  refine lv_iload_n hx hb dX6_submit_245 rfl (lv_at hl 3 rfl) ?_
                                  refine lv_dup2_11 hx hb dX6_submit_246 rfl rfl ?_
                                  refine wr_ald (cy := cy) (ad := ad) (ex := []) hx hb hE.1 hP 146 (show 146 < n by omega) ((g_146 cy ad) _) (vN tp) (x_vN (by omega)) (by omega) (by decide) dX6_submit_247 ?_
                                  refine wr_top (y := ((st (st (st u_103 137 0 (nI 0)) 147 (8 * vN tp + sc (vN tp)) rg) 148 (8 * vN tp + sc (vN tp)) mo) 146 (vN tp))) (by rw [hJ.2.1 _ (by decide)]) ?_
                                  refine wr_top (y := ((st (st u_103 137 0 (nI 0)) 147 (8 * vN tp + sc (vN tp)) rg) 146 (vN tp))) (by rw [st_r _ _ _ (by decide)]) ?_
                                  refine wr_top (y := ((st u_103 137 0 (nI 0)) 146 (vN tp))) (by rw [st_r _ _ _ (by decide)]) ?_
                                  refine wr_top (y := (u_103 146 (vN tp))) (by rw [st_r _ _ _ (by decide)]) ?_
                                  refine wr_top (y := (Mk 146 (vN tp))) (by rw [hmx.1 _ (by decide)]) ?_
                                  refine wr_top (y := (u_54 146 (vN tp))) (by rw [hI.2.1 _ (by decide)]) ?_
                                  refine wr_top (y := ((st M 137 0 (nI 0)) 146 (vN tp))) (by rw [hr_54.1 _ (by decide) (by decide)]) ?_
                                  refine wr_top (y := (M 146 (vN tp))) (by rw [st_r _ _ _ (by decide)]) ?_
                                  refine wr_top (y := (nI (sc (vN tp)))) hs1 ?_
                                  refine lv_iconst (v := (nI 1)) hx hb dX6_submit_248 (by decide) ?_
                                  refine lv_iadd hx hb dX6_submit_249 ?_
                                  refine wr_top (y := (nI ((sc (vN tp)) + 1))) (nI_add _ _) ?_
                                  refine wr_ast (cy := cy) (ad := ad) (ex := []) hx hb hE.1 hP hD hS 146 (show 146 < n by omega) (g_146 cy ad) (vN tp) (x_vN (by omega)) (by omega) (by decide) dX6_submit_250 (fun H locs hP hS => ?_)
                                  refine lv_aload_n hx hb dX6_submit_251 rfl (lv_at hl 1 rfl) ?_
                                  refine va_get (D := D) (ci := 5) (v := .ref (ad 146)) (C := RX6) (T := TX6) (N := 27) hx hb hts hin_RX6 hown hE.1 hP 137 (wd_at (M := (st Mj 146 (vN tp) (nI ((sc (vN tp)) + 1)))) (show 137 < n by omega) ((g_137 cy ad) _)) rfl 12 (by decide) hf35 (fun _ h9 => h9) rfl dX6_submit_252 ?_
                                  refine lv_iload_n hx hb dX6_submit_255 rfl (lv_at hl 3 rfl) ?_
                                  refine wr_ald (cy := cy) (ad := ad) (ex := []) hx hb hE.1 hP 146 (show 146 < n by omega) ((g_146 cy ad) _) (vN tp) (x_vN (by omega)) (by omega) (by decide) dX6_submit_256 ?_
                                  refine wr_top (y := (nI ((sc (vN tp)) + 1))) (st_s _ _ _ _) ?_
                                  exact W.iret (v := (nI ((sc (vN tp)) + 1))) hx hb hr (fun t ht hW => ⟨⟨(nI ((sc (vN tp)) + 1)), (st Mj 146 (vN tp) (nI ((sc (vN tp)) + 1))), rfl, Or.inl ⟨⟨by omega, by omega⟩, ⟨by omega, by omega⟩, c_40, ⟨by omega, hq_103⟩, hq_140, by omega, rfl, sb_fin hsu hJ.2.1 (fun j hj => hJ.2.2.1 j (by omega)) hJ.2.2.2⟩, (by show va_P D vwCl _ t.heap; rw [ht]; exact hP)⟩, hS.F ht⟩) hS.2.2 dX6_submit_257
                                · have c_212 := mt (nI_leI (by omega) (by omega)).mpr c_212
                                  refine lv_aload_n hx hb dX6_submit_215 rfl (lv_at hl 1 rfl) ?_
                                  refine va_get (D := D) (ci := 5) (v := .ref (ad 149)) (C := RX6) (T := TX6) (N := 27) hx hb hts hin_RX6 hown hE.1 hP 137 (wd_at (M := Mj) (show 137 < n by omega) ((g_137 cy ad) _)) rfl 15 (by decide) hf44 (fun _ h9 => h9) rfl dX6_submit_216 ?_
                                  refine lv_bipush (v := (nI 8)) hx hb dX6_submit_219 (by decide) ?_
                                  refine lv_iload hx hb dX6_submit_221 (lv_at hl 5 rfl) ?_
                                  refine lv_imul hx hb dX6_submit_223 ?_
                                  refine wr_top (y := (nI (8 * (8 * vN tp + sc (vN tp))))) (pk_mul _ _) ?_
                                  refine lv_iload hx hb dX6_submit_224 (lv_at hl 0 rfl) ?_
                                  refine lv_iadd hx hb dX6_submit_226 ?_
                                  refine wr_top (y := (nI ((8 * (8 * vN tp + sc (vN tp))) + i2))) (nI_add _ _) ?_
                                  refine lv_aload_n hx hb dX6_submit_227 rfl (lv_at hl 1 rfl) ?_
                                  refine va_get (D := D) (ci := 5) (v := .ref (ad 150)) (C := RX6) (T := TX6) (N := 27) hx hb hts hin_RX6 hown hE.1 hP 137 (wd_at (M := Mj) (show 137 < n by omega) ((g_137 cy ad) _)) rfl 17 (by decide) hf51 (fun _ h9 => h9) rfl dX6_submit_228 ?_
                                  refine lv_iload hx hb dX6_submit_231 (lv_at hl 0 rfl) ?_
                                  refine wr_ald (cy := cy) (ad := ad) (ex := []) hx hb hE.1 hP 150 (show 150 < n by omega) ((g_150 cy ad) _) i2 rfl (by omega) (by decide) dX6_submit_233 ?_
                                  refine wr_top (y := ((st (st (st u_103 137 0 (nI 0)) 147 (8 * vN tp + sc (vN tp)) rg) 148 (8 * vN tp + sc (vN tp)) mo) 150 i2)) (by rw [hJ.2.1 _ (by decide)]) ?_
                                  refine wr_top (y := ((st (st u_103 137 0 (nI 0)) 147 (8 * vN tp + sc (vN tp)) rg) 150 i2)) (by rw [st_r _ _ _ (by decide)]) ?_
                                  refine wr_top (y := ((st u_103 137 0 (nI 0)) 150 i2)) (by rw [st_r _ _ _ (by decide)]) ?_
                                  refine wr_top (y := (u_103 150 i2)) (by rw [st_r _ _ _ (by decide)]) ?_
                                  refine wr_top (y := (Mk 150 i2)) (by rw [hmx.1 _ (by decide)]) ?_
                                  refine wr_top (y := (u_54 150 i2)) (by rw [hI.2.1 _ (by decide)]) ?_
                                  refine wr_top (y := ((st M 137 0 (nI 0)) 150 i2)) (by rw [hr_54.1 _ (by decide) (by decide)]) ?_
                                  refine wr_top (y := (M 150 i2)) (by rw [st_r _ _ _ (by decide)]) ?_
                                  refine wr_ast (cy := cy) (ad := ad) (ex := []) hx hb hE.1 hP hD hS 149 (show 149 < n by omega) (g_149 cy ad) ((8 * (8 * vN tp + sc (vN tp))) + i2) rfl (by omega) (by decide) dX6_submit_234 (fun H locs hP hS => ?_)
                                  refine lv_iinc (v := (nI (i2 + 1))) (lv' := [(6, .int (nI (i2 + 1))), (0, .ref (ad 137)), (1, .int rg), (2, .int tp), (3, .int mo), (5, .int (nI (8 * vN tp + sc (vN tp))))]) hx hb dX6_submit_235 hl (k := 0) rfl (nI_1 _) (by decide) rfl (fun ls hl => ?_)
                                  refine lv_goto (tgt := 206) hx hb dX6_submit_238 (by decide) ?_
                                  exact ih206 _ (i2 + 1, (st Mj 149 ((8 * (8 * vN tp + sc (vN tp))) + i2) (M 150 i2))) _ _ _ (by omega) ⟨rfl, ⟨by omega, fun a h => by rw [st_r _ _ _ h]; exact hJ.2.1 a h, fun j hj => by rcases Nat.lt_or_ge j i2 with h | h <;> first | (rw [st_c _ _ _ (show 8 * (8 * vN tp + sc (vN tp)) + j ≠ 8 * (8 * vN tp + sc (vN tp)) + i2 by omega)]; exact hJ.2.2.1 j h) | (rw [show j = i2 by omega, st_s]), fun b hb => by rw [st_c _ _ _ (by omega)]; exact hJ.2.2.2 b hb⟩, hP, hS, (lv_sub hl [0, 1, 2, 3, 4, 5] rfl)⟩
                              · exact absurd c_169 (by decide)
                            · have c_154 := (nI_eq (by omega) (by omega)).mp c_154
                              refine lv_iconst (v := (nI 3)) hx hb dX6_submit_157 (by decide) ?_
                              refine lv_goto (tgt := 162) hx hb dX6_submit_158 (by decide) ?_
                              refine wr_put (cy := cy) (ad := ad) (ex := []) (ci := 5) (C := RX6) (T := TX6) (N := 27) (ty := .int) hx hb hts hin_RX6 tyX6 tyX6_ok nmX6 hown hE.1 hP hD hS 137 (show 137 < n by omega) ((g_137 cy ad) _) rfl 0 (by decide) hf63 (fun _ h9 => h9) rfl (by decide +kernel) rfl rfl (by simp) (((g_137 cy ad) _).trans (by simp [st_at])) dX6_submit_162 (fun H locs hP hS => ?_)
                              refine lv_aload_n hx hb dX6_submit_165 rfl (lv_at hl 1 rfl) ?_
                              refine va_get (D := D) (ci := 5) (v := .int ((st u_103 137 0 (nI 3)) 137 0)) (C := RX6) (T := TX6) (N := 27) hx hb hts hin_RX6 hown hE.1 hP 137 (wd_at (M := (st u_103 137 0 (nI 3))) (show 137 < n by omega) ((g_137 cy ad) _)) rfl 0 (by decide) hf63 (fun _ h9 => h9) rfl dX6_submit_166 ?_
                              refine wr_top (y := (nI 3)) (st_s _ _ _ _) ?_
                              refine lv_if_eq (tgt := 174) hx hb dX6_submit_169 (by decide) (fun c_169 => ?_) (fun c_169 => ?_)
                              · exact absurd c_169 (by decide)
                              · have c_169 := mt (o_eq0 _).mpr c_169
                                rw [nI_toInt (by omega)] at c_169
                                refine lv_iconst (v := (nI 0)) hx hb dX6_submit_172 (by decide) ?_
                                exact W.iret (v := (nI 0)) hx hb hr (fun t ht hW => ⟨⟨(nI 0), (st u_103 137 0 (nI 3)), rfl, Or.inr (Or.inr (Or.inr (Or.inr ⟨⟨by omega, by omega⟩, ⟨by omega, by omega⟩, c_40, ⟨by omega, hq_103⟩, Or.inr (by omega), sc_th hsu⟩))), (by show va_P D vwCl _ t.heap; rw [ht]; exact hP)⟩, hS.F ht⟩) hS.2.2 dX6_submit_173
                      · exact absurd c_119 (by decide)
                  · refine lv_if_eq (tgt := 113) hx hb dX6_submit_106 (by decide) (fun c_106 => ?_) (fun c_106 => ?_)
                    · have c_106 := (o_eq0 _).mp c_106
                      refine lv_iconst (v := (nI 0)) hx hb dX6_submit_113 (by decide) ?_
                      refine lv_istore (lv' := [(4, .int (nI 0)), (0, .ref (ad 137)), (1, .int rg), (2, .int tp), (3, .int mo)]) hx hb dX6_submit_114 hl (by decide) rfl (fun ls hl => ?_)
                      refine lv_aload_n hx hb dX6_submit_116 rfl (lv_at hl 1 rfl) ?_
                      refine lv_iload hx hb dX6_submit_117 (lv_at hl 0 rfl) ?_
                      refine lv_if_ne (tgt := 126) hx hb dX6_submit_119 (by decide) (fun c_119 => ?_) (fun c_119 => ?_)
                      · exact absurd c_119 (by decide)
                      · have c_119 := (o_eq0 _).mp c_119
                        rw [nI_toInt (by omega)] at c_119
                        refine lv_iconst (v := (nI 1)) hx hb dX6_submit_122 (by decide) ?_
                        refine lv_goto (tgt := 162) hx hb dX6_submit_123 (by decide) ?_
                        refine wr_put (cy := cy) (ad := ad) (ex := []) (ci := 5) (C := RX6) (T := TX6) (N := 27) (ty := .int) hx hb hts hin_RX6 tyX6 tyX6_ok nmX6 hown hE.1 hP hD hS 137 (show 137 < n by omega) ((g_137 cy ad) _) rfl 0 (by decide) hf63 (fun _ h9 => h9) rfl (by decide +kernel) rfl rfl (by simp) (((g_137 cy ad) _).trans (by simp [st_at])) dX6_submit_162 (fun H locs hP hS => ?_)
                        refine lv_aload_n hx hb dX6_submit_165 rfl (lv_at hl 1 rfl) ?_
                        refine va_get (D := D) (ci := 5) (v := .int ((st u_103 137 0 (nI 1)) 137 0)) (C := RX6) (T := TX6) (N := 27) hx hb hts hin_RX6 hown hE.1 hP 137 (wd_at (M := (st u_103 137 0 (nI 1))) (show 137 < n by omega) ((g_137 cy ad) _)) rfl 0 (by decide) hf63 (fun _ h9 => h9) rfl dX6_submit_166 ?_
                        refine wr_top (y := (nI 1)) (st_s _ _ _ _) ?_
                        refine lv_if_eq (tgt := 174) hx hb dX6_submit_169 (by decide) (fun c_169 => ?_) (fun c_169 => ?_)
                        · exact absurd c_169 (by decide)
                        · have c_169 := mt (o_eq0 _).mpr c_169
                          rw [nI_toInt (by omega)] at c_169
                          refine lv_iconst (v := (nI 0)) hx hb dX6_submit_172 (by decide) ?_
                          exact W.iret (v := (nI 0)) hx hb hr (fun t ht hW => ⟨⟨(nI 0), (st u_103 137 0 (nI 1)), rfl, Or.inr (Or.inr (Or.inr (Or.inl ⟨⟨by omega, by omega⟩, ⟨by omega, by omega⟩, c_40, fun h => hq_103 h.2, sc_th hsu⟩))), (by show va_P D vwCl _ t.heap; rw [ht]; exact hP)⟩, hS.F ht⟩) hS.2.2 dX6_submit_173
                    · exact absurd c_106 (by decide)
              · have c_66 := mt (nI_leI (by omega) (by omega)).mpr c_66
                refine lv_aload_n hx hb dX6_submit_69 rfl (lv_at hl 1 rfl) ?_
                refine va_get (D := D) (ci := 5) (v := .ref (ad 153)) (C := RX6) (T := TX6) (N := 27) hx hb hts hin_RX6 hown hE.1 hP 137 (wd_at (M := Mk) (show 137 < n by omega) ((g_137 cy ad) _)) rfl 25 (by decide) hf60 (fun _ h9 => h9) rfl dX6_submit_70 ?_
                refine lv_iload hx hb dX6_submit_73 (lv_at hl 0 rfl) ?_
                refine lv_aload_n hx hb dX6_submit_75 rfl (lv_at hl 1 rfl) ?_
                refine va_get (D := D) (ci := 5) (v := .ref (ad 150)) (C := RX6) (T := TX6) (N := 27) hx hb hts hin_RX6 hown hE.1 hP 137 (wd_at (M := Mk) (show 137 < n by omega) ((g_137 cy ad) _)) rfl 17 (by decide) hf51 (fun _ h9 => h9) rfl dX6_submit_76 ?_
                refine lv_iload hx hb dX6_submit_79 (lv_at hl 0 rfl) ?_
                refine wr_ald (cy := cy) (ad := ad) (ex := []) hx hb hE.1 hP 150 (show 150 < n by omega) ((g_150 cy ad) _) i rfl (by omega) (by decide) dX6_submit_81 ?_
                refine wr_top (y := (u_54 150 i)) (by rw [hI.2.1 _ (by decide)]) ?_
                refine wr_top (y := ((st M 137 0 (nI 0)) 150 i)) (by rw [hr_54.1 _ (by decide) (by decide)]) ?_
                refine wr_top (y := (M 150 i)) (by rw [st_r _ _ _ (by decide)]) ?_
                refine wr_ast (cy := cy) (ad := ad) (ex := []) hx hb hE.1 hP hD hS 153 (show 153 < n by omega) (g_153 cy ad) i rfl (by omega) (by decide) dX6_submit_82 (fun H locs hP hS => ?_)
                refine lv_iinc (v := (nI (i + 1))) (lv' := [(4, .int (nI (i + 1))), (0, .ref (ad 137)), (1, .int rg), (2, .int tp), (3, .int mo)]) hx hb dX6_submit_83 hl (k := 0) rfl (nI_1 _) (by decide) rfl (fun ls hl => ?_)
                refine lv_goto (tgt := 60) hx hb dX6_submit_86 (by decide) ?_
                exact ih60 _ (i + 1, (st Mk 153 i (M 150 i))) _ _ _ (by omega) ⟨rfl, ⟨by omega, fun a h => by rw [st_r _ _ _ h]; exact hI.2.1 a h, fun j hj => by rcases Nat.lt_or_ge j i with h | h <;> first | (rw [st_c _ _ _ (show j ≠ i by omega)]; exact hI.2.2 j h) | (rw [show j = i by omega, st_s])⟩, hP, hS, (lv_sub hl [0, 1, 2, 3, 4] rfl)⟩
            · refine lv_aload_n hx hb dX6_submit_43 rfl (lv_at hl 0 rfl) ?_
              refine lv_iconst (v := (nI 2)) hx hb dX6_submit_44 (by decide) ?_
              refine wr_put (cy := cy) (ad := ad) (ex := []) (ci := 5) (C := RX6) (T := TX6) (N := 27) (ty := .int) hx hb hts hin_RX6 tyX6 tyX6_ok nmX6 hown hE.1 hP hD hS 137 (show 137 < n by omega) ((g_137 cy ad) _) rfl 0 (by decide) hf63 (fun _ h9 => h9) rfl (by decide +kernel) rfl rfl (by simp) (((g_137 cy ad) _).trans (by simp [st_at])) dX6_submit_45 (fun H locs hP hS => ?_)
              rw [st_st] at hP
              refine lv_iconst (v := (nI 0)) hx hb dX6_submit_48 (by decide) ?_
              exact W.iret (v := (nI 0)) hx hb hr (fun t ht hW => ⟨⟨(nI 0), (st M 137 0 (nI 2)), rfl, Or.inr (Or.inr (Or.inl ⟨⟨by omega, by omega⟩, ⟨by omega, by omega⟩, c_40, sc_rf _⟩)), (by show va_P D vwCl _ t.heap; rw [ht]; exact hP)⟩, hS.F ht⟩) hS.2.2 dX6_submit_49
          · exact absurd c_29 (by decide)
        · exact absurd c_14 (by decide)
