/-- the world but for what the model looks at -/
def scM (M N : Mm) : Prop := (∀ a, a ≠ 137 → a ≠ 152 → a ≠ 153 → N a = M a) ∧ ∀ c, c ≠ 20 → c ≠ 22 → c ≠ 23 → c ≠ 24 → c ≠ 26 → N 137 c = M 137 c
theorem sc_rf (M : Mm) : scM M M := ⟨fun _ _ _ _ => rfl, fun _ _ _ _ _ _ => rfl⟩
theorem sc_tr {M N O : Mm} (h : scM M N) (h2 : scM N O) : scM M O := ⟨fun a h3 h4 h5 => (h2.1 a h3 h4 h5).trans (h.1 a h3 h4 h5), fun c a1 a2 a3 a4 a5 => (h2.2 c a1 a2 a3 a4 a5).trans (h.2 c a1 a2 a3 a4 a5)⟩
theorem sc_mx {M N : Mm} (h : mxP M N) : scM M N := ⟨fun a h1 _ _ => h.1 a h1, fun c _ _ _ _ h5 => h.2 c h5⟩
theorem sc_lk {M N K : Mm} {z rq tq : Nat} {mo : Int32} (h : lkP M N z rq tq mo) (hf : ∀ a, a ≠ 153 → K a = N a) : scM M K := ⟨fun a h1 h2 h3 => (hf a h3).trans (h.1 a h1 h2), fun c a1 a2 a3 a4 _ => by rw [hf 137 (by decide)]; exact h.2.1 c a1 a2 a3 a4⟩
theorem lk_gd {M N K : Mm} {z rq tq bB : Nat} {mo : Int32} {num : Nat → Int32} (h : lkP M N z rq tq mo) (hf : ∀ a, a ≠ 153 → K a = N a) (hn : ∀ i, i < 2 + z → K 153 i = num i) : gdM K z bB ↔ gdP z (fun j => M 142 (6 * rq + j)) (M 143 tq) mo bB num := by
  unfold gdM
  rw [hf 137 (by decide), hf 152 (by decide), h.2.2.2.2.1, h.2.2.2.2.2.1]
  exact gd_iff h.2.2.2.2.2.2 hn
/-- a stored signature is well, in the model -/
def mswP (rs sr : Nat → Nat) (tq : Nat) (M : Mm) (k : Nat) : Prop :=
  gdP (rs (sr k)) (fun j => M 142 (6 * sr k + j)) (M 143 tq) (M 148 (8 * tq + k)) (tB (M 143 tq)) (fun j => M 149 (8 * (8 * tq + k) + j)) ∧ ¬ ∃ j, j < k ∧ M 149 (8 * (8 * tq + j) + 1) = M 149 (8 * (8 * tq + k) + 1)
theorem msw_sc {rs sr : Nat → Nat} {tq k : Nat} {M N : Mm} (h : ∀ a, a ≠ 137 → a ≠ 152 → a ≠ 153 → N a = M a) : mswP rs sr tq N k ↔ mswP rs sr tq M k := by
  unfold mswP
  rw [h 142 (by decide) (by decide) (by decide), h 143 (by decide) (by decide) (by decide), h 148 (by decide) (by decide) (by decide), h 149 (by decide) (by decide) (by decide)]
theorem mr_sc {rc : Nat} {rs : Nat → Nat} {M N : Mm} (hm : mrP rc rs M) (h : ∀ a, a ≠ 137 → a ≠ 152 → a ≠ 153 → N a = M a) : mrP rc rs N := by
  unfold mrP; rw [h 141 (by decide) (by decide) (by decide), h 142 (by decide) (by decide) (by decide)]; exact hm
theorem mt_sc {rc sc tq : Nat} {sr : Nat → Nat} {M N : Mm} (hm : mtP rc sr sc tq M) (h : ∀ a, a ≠ 137 → a ≠ 152 → a ≠ 153 → N a = M a) : mtP rc sr sc tq N := by
  unfold mtP; rw [h 147 (by decide) (by decide) (by decide)]; exact hm
theorem tb_sc {M N : Mm} (hm : tbP M) (h : ∀ a, a ≠ 137 → a ≠ 152 → a ≠ 153 → N a = M a) : tbP N := tb_mx hm (h 138 (by decide) (by decide) (by decide)) (h 139 (by decide) (by decide) (by decide))
theorem s0_f {M : Mm} {v : Int32} : ∀ a, a ≠ 137 → a ≠ 152 → a ≠ 153 → st M 137 0 v a = M a := fun a h _ _ => st_r _ _ _ h
/-- the bundle's row, in the model -/
def bdM (M N : Mm) (b : Nat) (f : Nat → Int32) : Prop := (∀ a, a ≠ 137 → a ≠ 151 → N a = M a) ∧ (∀ c, c ≠ 18 → N 137 c = M 137 c) ∧ N 137 18 = nI b ∧ ∀ j, j < b → N 151 j = f j
theorem bm_put {M N : Mm} {b : Nat} {f : Nat → Int32} {x : Int32} (h : bdM M N b f) : bdM M (st (st N 151 b x) 137 18 (nI (b + 1))) (b + 1) (upd f b x) := by
  obtain ⟨h1, h2, h3, h4⟩ := h
  refine ⟨fun a a0 a7 => by rw [st_r _ _ _ a0, st_r _ _ _ a7]; exact h1 a a0 a7, fun c hc => by rw [st_c _ _ _ hc, st_r _ _ _ (by decide)]; exact h2 c hc, st_s _ _ _ _, fun j hj => ?_⟩
  rw [st_r _ _ _ (by decide)]
  by_cases e : j = b
  · subst e; rw [st_s, pk_us]
  · rw [st_c _ _ _ e, pk_un e]; exact h4 j (by omega)
theorem bm_cong {M N : Mm} {b : Nat} {f g : Nat → Int32} (h : bdM M N b f) (hg : ∀ j, j < b → f j = g j) : bdM M N b g := ⟨h.1, h.2.1, h.2.2.1, fun j hj => (h.2.2.2 j hj).trans (hg j hj)⟩

set_option maxHeartbeats 4000000 in
set_option maxRecDepth 100000 in
/-- model isStoredGood -/
theorem kX6_isStoredGood (l : Launch) {D : va_G} {cy ad : Nat → Nat} {n : Nat} {M : Mm} {A : Nat → Prop} (hD : ∀ M, va_D A (wd cy ad n M ++ [])) (hn : 154 ≤ n) {tq k rc sc : Nat} {rs sr : Nat → Nat} (ht6 : tq < 6) (hrc8 : rc ≤ 8) (hk : k < sc) (hsc8 : sc ≤ 8) (htb : tbP M) (hmr : mrP rc rs M) (hmb : M 144 tq = nI (tB (M 143 tq))) (hmt : mtP rc sr sc tq M) : Met l yX6_isStoredGood wsX6_isStoredGood ({ frames := 4, cells := 0, slots := 0, locals := 90 }) (va_Pc [.ref (ad 137), .int (nI tq), .int (nI k)] (RW D cy (wd cy ad n M ++ []) A)) (va_Qi (S := Mm) (fun r u => bP (mswP rs sr tq M k) r ∧ scM M u) (fun u t => va_P D vwCl (wd cy ad n u ++ []) t.heap) A) 0 0 A := by
  refine Met.ofW (cc := cX6_isStoredGood) (maxL := 5) (ret := (some .boolean)) (by decide +kernel) rfl ?_
  intro p e s m args below meth c s₁ B hml hv
  obtain ⟨rfl, hP, hE, hA⟩ := hv
  have hx := B.exec
  have hb := B.bytes
  have hr := B.returns
  have hts := atoms_spec (ws := wsX6_isStoredGood) B.pre
  have hown : s.vm.findClass RX6 = some m.cls := findClass_of_methodNamed B.named
  have hlocks := B.notSynchronized
  have hf38 : (Cond.fieldLink RX6 38 "RingPetitionModel" "signRing" "[I").before #[.ref (ad 137), .int (nI tq), .int (nI k)] s = true := hts _ (by decide +kernel)
  have hf41 : (Cond.fieldLink RX6 41 "RingPetitionModel" "signMotion" "[I").before #[.ref (ad 137), .int (nI tq), .int (nI k)] s = true := hts _ (by decide +kernel)
  have hf44 : (Cond.fieldLink RX6 44 "RingPetitionModel" "signed" "[I").before #[.ref (ad 137), .int (nI tq), .int (nI k)] s = true := hts _ (by decide +kernel)
  have hf60 : (Cond.fieldLink RX6 60 "RingPetitionModel" "numbers" "[I").before #[.ref (ad 137), .int (nI tq), .int (nI k)] s = true := hts _ (by decide +kernel)
  have hin_RX6 : ∀ w ∈ u_ws RX6 TX6 27, w ∈ wsX6_isStoredGood := by decide +kernel
  have hS : va_S A s.heap s.heap [] := va_S.rf
  have hl := lv_entry ([.ref (ad 137), .int (nI tq), .int (nI k)]) (n := 5) (Nat.le_of_ble_eq_true rfl)
  rw [lg_entry_eq]
  generalize (lg_sl ([.ref (ad 137), .int (nI tq), .int (nI k)]) ++ List.replicate (5 - (lg_sl ([.ref (ad 137), .int (nI tq), .int (nI k)])).length) Slot.unset).toArray = ls at hl ⊢
  have hl : lv_has ls 5 [(0, .ref (ad 137)), (1, .int (nI tq)), (2, .int (nI k))] := hl
  obtain ⟨hm1, hm2⟩ := hmt k hk
  obtain ⟨hm3, hm4, hm5⟩ := hmr _ hm2
  refine lv_bipush (v := (nI 8)) hx hb dX6_isStoredGood_0 (by decide) ?_
  refine lv_iload_n hx hb dX6_isStoredGood_2 rfl (lv_at hl 1 rfl) ?_
  refine lv_imul hx hb dX6_isStoredGood_3 ?_
  refine wr_top (y := (nI (8 * tq))) (pk_mul _ _) ?_
  refine lv_iload_n hx hb dX6_isStoredGood_4 rfl (lv_at hl 2 rfl) ?_
  refine lv_iadd hx hb dX6_isStoredGood_5 ?_
  refine wr_top (y := (nI ((8 * tq) + k))) (nI_add _ _) ?_
  refine lv_istore_n (lv' := [(3, .int (nI ((8 * tq) + k))), (0, .ref (ad 137)), (1, .int (nI tq)), (2, .int (nI k))]) hx hb dX6_isStoredGood_6 rfl hl (by decide) rfl (fun ls hl => ?_)
  refine lv_aload_n hx hb dX6_isStoredGood_7 rfl (lv_at hl 1 rfl) ?_
  refine lv_aload_n hx hb dX6_isStoredGood_8 rfl (lv_at hl 1 rfl) ?_
  refine va_get (D := D) (ci := 5) (v := .ref (ad 147)) (C := RX6) (T := TX6) (N := 27) hx hb hts hin_RX6 hown hE.1 hP 137 (wd_at (M := M) (show 137 < n by omega) ((g_137 cy ad) _)) rfl 13 (by decide) hf38 (fun _ h9 => h9) rfl dX6_isStoredGood_9 ?_
  refine lv_iload_n hx hb dX6_isStoredGood_12 rfl (lv_at hl 0 rfl) ?_
  refine wr_ald (cy := cy) (ad := ad) (ex := []) hx hb hE.1 hP 147 (show 147 < n by omega) ((g_147 cy ad) _) (8 * tq + k) rfl (by omega) (by decide) dX6_isStoredGood_13 ?_
  refine wr_top (y := (nI (sr k))) hm1 ?_
  refine lv_iload_n hx hb dX6_isStoredGood_14 rfl (lv_at hl 2 rfl) ?_
  refine lv_aload_n hx hb dX6_isStoredGood_15 rfl (lv_at hl 1 rfl) ?_
  refine va_get (D := D) (ci := 5) (v := .ref (ad 148)) (C := RX6) (T := TX6) (N := 27) hx hb hts hin_RX6 hown hE.1 hP 137 (wd_at (M := M) (show 137 < n by omega) ((g_137 cy ad) _)) rfl 14 (by decide) hf41 (fun _ h9 => h9) rfl dX6_isStoredGood_16 ?_
  refine lv_iload_n hx hb dX6_isStoredGood_19 rfl (lv_at hl 0 rfl) ?_
  refine wr_ald (cy := cy) (ad := ad) (ex := []) hx hb hE.1 hP 148 (show 148 < n by omega) ((g_148 cy ad) _) (8 * tq + k) rfl (by omega) (by decide) dX6_isStoredGood_20 ?_
  refine va_callv (va_runV (As := [.int (nI (sr k)), .int (nI tq), .int (M 148 (8 * tq + k))]) (rest := []) ⟨hx, hb, hml, hown, hts⟩ (kX6_look l hD hn (z := rs (sr k)) (rq := sr k) (tq := tq) hm3 hm4 (by omega) ht6) (cwV 3 hts gX6_isStoredGood_X6_look rfl rfl rfl (by decide +kernel) ⟨Nat.le_of_ble_eq_true rfl, Nat.le_of_ble_eq_true rfl⟩) (rw_pv (ci := 5) (q := (RX6, TX6, 27)) hE hP hS hA rfl (wd_at (M := M) (show 137 < n by omega) ((g_137 cy ad) _))) rfl rfl hl.1 rfl (lv_room (Nat.le_of_ble_eq_true rfl)) dX6_isStoredGood_21 ⟨Nat.le_of_ble_eq_true rfl, Nat.le_of_ble_eq_true rfl⟩) hS (fun q _ h => h) (fun q h => h) (fun u_21 t H1 locs ht hvm hr_21 hB_21 hz1 hk1 hS => ?_)
  have hP : va_P D vwCl (wd cy ad n u_21 ++ []) H1 := by rw [← ht]; exact hB_21
  clear hB_21 ht hvm hz1 hk1
  generalize H1 = H at hP hS ⊢
  refine lv_iconst (v := (nI 0)) hx hb dX6_isStoredGood_24 (by decide) ?_
  refine lv_istore (lv' := [(4, .int (nI 0)), (3, .int (nI (8 * tq + k))), (0, .ref (ad 137)), (1, .int (nI tq)), (2, .int (nI k))]) hx hb dX6_isStoredGood_25 hl (by decide) rfl (fun ls hl => ?_)
  refine wloopW (fun kq (xq : Nat × Mm) H locs ls => match xq with | (i, Mk) => kq = 8 - i ∧ (i ≤ 8 ∧ (∀ a, a ≠ 153 → Mk a = u_21 a) ∧ ∀ j, j < i → Mk 153 j = M 149 (8 * (8 * tq + k) + j)) ∧ va_P D vwCl (wd cy ad n Mk ++ []) H ∧ va_S A s.heap H locs ∧ lv_has ls 5 [(4, .int (nI i)), (0, .ref (ad 137)), (1, .int (nI tq)), (2, .int (nI k)), (3, .int (nI (8 * tq + k)))]) (fun k27 x27 H locs ls h27 ih27 => ?_) _ (0, u_21) _ _ ls ⟨rfl, ⟨by decide, fun _ _ => rfl, fun j h => absurd h (Nat.not_lt_zero j)⟩, hP, hS, lv_sub hl [0, 2, 3, 4, 1] rfl⟩
  obtain ⟨i, Mk⟩ := x27
  obtain ⟨hk27, hI, hP, hS, hl⟩ := h27
  refine lv_iload hx hb dX6_isStoredGood_27 (lv_at hl 0 rfl) ?_
  refine lv_bipush (v := (nI 8)) hx hb dX6_isStoredGood_29 (by decide) ?_
  refine lv_icmp_ge (tgt := 59) hx hb dX6_isStoredGood_31 (by decide) (fun c_31 => ?_) (fun c_31 => ?_)
  · have c_31 := (nI_leI (by omega) (by omega)).mp c_31
    refine lv_aload_n hx hb dX6_isStoredGood_59 rfl (lv_at hl 1 rfl) ?_
    have hg := lk_gd (bB := tB (M 143 tq)) hr_21 hI.2.1 (num := (fun j => M 149 (8 * (8 * tq + k) + j))) (fun j hj => hI.2.2 j (by omega))
    have hsk := sc_lk hr_21 hI.2.1
    have e20 : Mk 137 20 = nI (rs (sr k)) := by rw [hI.2.1 137 (by decide)]; exact hr_21.2.2.1
    have e22 : Mk 137 22 = nI (tB (M 143 tq)) := by rw [hI.2.1 137 (by decide), hr_21.2.2.2.1]; exact hmb
    have e152 : ∀ j, j < (rs (sr k)) → eltN (vN (Mk 152 j)) = true := fun j hj => by rw [hI.2.1 152 (by decide), hr_21.2.2.2.2.2.2 j hj]; exact hm5 j hj
    refine va_calli (va_runV (As := []) (rest := []) ⟨hx, hb, hml, hown, hts⟩ (kX6_isGood l (M := Mk) hD hn (tb_sc htb hsk.1) e20 hm4 e22 (tB_el _) e152) (cwV 0 hts gX6_isStoredGood_X6_isGood rfl rfl rfl (by decide +kernel) ⟨Nat.le_of_ble_eq_true rfl, Nat.le_of_ble_eq_true rfl⟩) (rw_pv (ci := 5) (q := (RX6, TX6, 27)) hE hP hS hA rfl (wd_at (M := Mk) (show 137 < n by omega) ((g_137 cy ad) _))) rfl rfl hl.1 rfl (lv_room (Nat.le_of_ble_eq_true rfl)) dX6_isStoredGood_60 ⟨Nat.le_of_ble_eq_true rfl, Nat.le_of_ble_eq_true rfl⟩) hS (fun q _ h => h) (fun q h => h) (fun r_60 u_60 t H1 locs ht hvm hr_60 hB_60 hz1 hk1 hS => ?_)
    have hP : va_P D vwCl (wd cy ad n u_60 ++ []) H1 := by rw [← ht]; exact hB_60
    clear hB_60 ht hvm hz1 hk1
    generalize H1 = H at hP hS ⊢
    obtain ⟨hr_60, hmx⟩ := hr_60
    have hr_60 := bP_iff hg hr_60
    have hsu := sc_tr hsk (sc_mx hmx)
    rcases hr_60 with ⟨hq_60, rfl⟩ | ⟨hq_60, rfl⟩
    · refine lv_if_eq (tgt := 85) hx hb dX6_isStoredGood_63 (by decide) (fun c_63 => ?_) (fun c_63 => ?_)
      · exact absurd c_63 (by decide)
      · have c_63 := mt (o_eq0 _).mpr c_63
        refine lv_aload_n hx hb dX6_isStoredGood_66 rfl (lv_at hl 1 rfl) ?_
        refine lv_iload_n hx hb dX6_isStoredGood_67 rfl (lv_at hl 2 rfl) ?_
        refine lv_aload_n hx hb dX6_isStoredGood_68 rfl (lv_at hl 1 rfl) ?_
        refine va_get (D := D) (ci := 5) (v := .ref (ad 153)) (C := RX6) (T := TX6) (N := 27) hx hb hts hin_RX6 hown hE.1 hP 137 (wd_at (M := u_60) (show 137 < n by omega) ((g_137 cy ad) _)) rfl 25 (by decide) hf60 (fun _ h9 => h9) rfl dX6_isStoredGood_69 ?_
        refine lv_iconst (v := (nI 1)) hx hb dX6_isStoredGood_72 (by decide) ?_
        refine wr_ald (cy := cy) (ad := ad) (ex := []) hx hb hE.1 hP 153 (show 153 < n by omega) ((g_153 cy ad) _) 1 rfl (by omega) (by decide) dX6_isStoredGood_73 ?_
        refine wr_top (y := (M 149 (8 * (8 * tq + k) + 1))) (by rw [hmx.1 153 (by decide)]; exact hI.2.2 1 (by omega)) ?_
        refine lv_iload_n hx hb dX6_isStoredGood_74 rfl (lv_at hl 3 rfl) ?_
        have e149 : u_60 149 = M 149 := hsu.1 149 (by decide) (by decide) (by decide)
        refine vp_callSi (W.runV (As := [.int (nI tq), .int (M 149 (8 * (8 * tq + k) + 1)), .int (nI k)]) (rest := []) ⟨hx, hb, hml, hown, hts⟩ (kX6_hasTag l hn (M := u_60) (tq := tq) (b := k) ht6 (by omega)) (cwV 3 hts gX6_isStoredGood_X6_hasTag rfl rfl rfl (by decide +kernel) ⟨Nat.le_of_ble_eq_true rfl, Nat.le_of_ble_eq_true rfl⟩) (ro_pv (ci := 5) (q := (RX6, TX6, 27)) hE hP rfl (wd_at (M := u_60) (show 137 < n by omega) ((g_137 cy ad) _))) rfl rfl hl.1 rfl (lv_room (Nat.le_of_ble_eq_true rfl)) dX6_isStoredGood_75 ⟨Nat.le_of_ble_eq_true rfl, Nat.le_of_ble_eq_true rfl⟩) (fun r_75 hr_75 => ?_)
        rw [e149] at hr_75
        rcases hr_75 with ⟨hq_75, rfl⟩ | ⟨hq_75, rfl⟩
        · refine lv_if_ne (tgt := 85) hx hb dX6_isStoredGood_78 (by decide) (fun c_78 => ?_) (fun c_78 => ?_)
          · have c_78 := mt (o_eq0 _).mpr c_78
            refine lv_iconst (v := (nI 0)) hx hb dX6_isStoredGood_85 (by decide) ?_
            exact W.zret (v := (nI 0)) hx hb hr rfl (fun t ht hW => ⟨⟨(nI 0), u_60, rfl, ⟨bP_0 (fun h => h.2 hq_75), hsu⟩, (by show va_P D vwCl _ t.heap; rw [ht]; exact hP)⟩, hS.F ht⟩) hS.2.2 dX6_isStoredGood_86
          · exact absurd c_78 (by decide)
        · refine lv_if_ne (tgt := 85) hx hb dX6_isStoredGood_78 (by decide) (fun c_78 => ?_) (fun c_78 => ?_)
          · exact absurd c_78 (by decide)
          · have c_78 := (o_eq0 _).mp c_78
            refine lv_iconst (v := (nI 1)) hx hb dX6_isStoredGood_81 (by decide) ?_
            refine lv_goto (tgt := 86) hx hb dX6_isStoredGood_82 (by decide) ?_
            exact W.zret (v := (nI 1)) hx hb hr rfl (fun t ht hW => ⟨⟨(nI 1), u_60, rfl, ⟨bP_1 ⟨hq_60, hq_75⟩, hsu⟩, (by show va_P D vwCl _ t.heap; rw [ht]; exact hP)⟩, hS.F ht⟩) hS.2.2 dX6_isStoredGood_86
    · refine lv_if_eq (tgt := 85) hx hb dX6_isStoredGood_63 (by decide) (fun c_63 => ?_) (fun c_63 => ?_)
      · have c_63 := (o_eq0 _).mp c_63
        refine lv_iconst (v := (nI 0)) hx hb dX6_isStoredGood_85 (by decide) ?_
        exact W.zret (v := (nI 0)) hx hb hr rfl (fun t ht hW => ⟨⟨(nI 0), u_60, rfl, ⟨bP_0 (fun h => hq_60 h.1), hsu⟩, (by show va_P D vwCl _ t.heap; rw [ht]; exact hP)⟩, hS.F ht⟩) hS.2.2 dX6_isStoredGood_86
      · exact absurd c_63 (by decide)
  · have c_31 := mt (nI_leI (by omega) (by omega)).mpr c_31
    refine lv_aload_n hx hb dX6_isStoredGood_34 rfl (lv_at hl 1 rfl) ?_
    refine va_get (D := D) (ci := 5) (v := .ref (ad 153)) (C := RX6) (T := TX6) (N := 27) hx hb hts hin_RX6 hown hE.1 hP 137 (wd_at (M := Mk) (show 137 < n by omega) ((g_137 cy ad) _)) rfl 25 (by decide) hf60 (fun _ h9 => h9) rfl dX6_isStoredGood_35 ?_
    refine lv_iload hx hb dX6_isStoredGood_38 (lv_at hl 0 rfl) ?_
    refine lv_aload_n hx hb dX6_isStoredGood_40 rfl (lv_at hl 1 rfl) ?_
    refine va_get (D := D) (ci := 5) (v := .ref (ad 149)) (C := RX6) (T := TX6) (N := 27) hx hb hts hin_RX6 hown hE.1 hP 137 (wd_at (M := Mk) (show 137 < n by omega) ((g_137 cy ad) _)) rfl 15 (by decide) hf44 (fun _ h9 => h9) rfl dX6_isStoredGood_41 ?_
    refine lv_bipush (v := (nI 8)) hx hb dX6_isStoredGood_44 (by decide) ?_
    refine lv_iload_n hx hb dX6_isStoredGood_46 rfl (lv_at hl 4 rfl) ?_
    refine lv_imul hx hb dX6_isStoredGood_47 ?_
    refine wr_top (y := (nI (8 * (8 * tq + k)))) (pk_mul _ _) ?_
    refine lv_iload hx hb dX6_isStoredGood_48 (lv_at hl 0 rfl) ?_
    refine lv_iadd hx hb dX6_isStoredGood_50 ?_
    refine wr_top (y := (nI ((8 * (8 * tq + k)) + i))) (nI_add _ _) ?_
    refine wr_ald (cy := cy) (ad := ad) (ex := []) hx hb hE.1 hP 149 (show 149 < n by omega) ((g_149 cy ad) _) ((8 * (8 * tq + k)) + i) rfl (by omega) (by decide) dX6_isStoredGood_51 ?_
    refine wr_top (y := (u_21 149 ((8 * (8 * tq + k)) + i))) (by rw [hI.2.1 _ (by decide)]) ?_
    refine wr_top (y := (M 149 ((8 * (8 * tq + k)) + i))) (by rw [hr_21.1 _ (by decide) (by decide)]) ?_
    refine wr_ast (cy := cy) (ad := ad) (ex := []) hx hb hE.1 hP hD hS 153 (show 153 < n by omega) (g_153 cy ad) i rfl (by omega) (by decide) dX6_isStoredGood_52 (fun H locs hP hS => ?_)
    refine lv_iinc (v := (nI (i + 1))) (lv' := [(4, .int (nI (i + 1))), (0, .ref (ad 137)), (1, .int (nI tq)), (2, .int (nI k)), (3, .int (nI (8 * tq + k)))]) hx hb dX6_isStoredGood_53 hl (k := 0) rfl (nI_1 _) (by decide) rfl (fun ls hl => ?_)
    refine lv_goto (tgt := 27) hx hb dX6_isStoredGood_56 (by decide) ?_
    exact ih27 _ (i + 1, (st Mk 153 i (M 149 ((8 * (8 * tq + k)) + i)))) _ _ _ (by omega) ⟨rfl, ⟨by omega, fun a h => by rw [st_r _ _ _ h]; exact hI.2.1 a h, fun j hj => by rcases Nat.lt_or_ge j i with h | h <;> first | (rw [st_c _ _ _ (show j ≠ i by omega)]; exact hI.2.2 j h) | (rw [show j = i by omega, st_s])⟩, hP, hS, (lv_sub hl [0, 1, 2, 3, 4] rfl)⟩

set_option maxHeartbeats 4000000 in
set_option maxRecDepth 100000 in
/-- model recount -/
theorem kX6_recount (l : Launch) {D : va_G} {cy ad : Nat → Nat} {n : Nat} {M : Mm} {A : Nat → Prop} (hD : ∀ M, va_D A (wd cy ad n M ++ [])) (hn : 154 ≤ n) {tc : Nat} (htc : M 137 8 = nI tc) (htc6 : tc ≤ 6) {x : Int32} {rc sc : Nat} {rs sr : Nat → Nat} (hrc8 : rc ≤ 8) (hsc : M 146 (vN x) = nI sc) (hsc8 : sc ≤ 8) (htb : tbP M) (hmr : mrP rc rs M) (hmb : mbP tc M) (hmt : mtP rc sr sc (vN x) M) : Met l yX6_recount wsX6_recount ({ frames := 5, cells := 0, slots := 0, locals := 114 }) (va_Pc [.ref (ad 137), .int x] (RW D cy (wd cy ad n M ++ []) A)) (va_Qi (S := Mm) (fun r u => (0 ≤ x.toInt ∧ x.toInt < (tc : Int) ∧ (((∀ k, k < sc → mswP rs sr (vN x) M k) ∧ r = nI sc) ∨ (∃ k, k < sc ∧ ¬ mswP rs sr (vN x) M k ∧ (∀ j, j < k → mswP rs sr (vN x) M j) ∧ r = (-1) - nI k)) ∧ scM (st M 137 0 (nI 0)) u) ∨ (¬ (0 ≤ x.toInt ∧ x.toInt < (tc : Int)) ∧ u = (st M 137 0 (nI 1)))) (fun u t => va_P D vwCl (wd cy ad n u ++ []) t.heap) A) 0 0 A := by
  refine Met.ofW (cc := cX6_recount) (maxL := 3) (ret := (some .int)) (by decide +kernel) rfl ?_
  intro p e s m args below meth c s₁ B hml hv
  obtain ⟨rfl, hP, hE, hA⟩ := hv
  have hx := B.exec
  have hb := B.bytes
  have hr := B.returns
  have hts := atoms_spec (ws := wsX6_recount) B.pre
  have hown : s.vm.findClass RX6 = some m.cls := findClass_of_methodNamed B.named
  have hlocks := B.notSynchronized
  have hf35 : (Cond.fieldLink RX6 35 "RingPetitionModel" "stored" "[I").before #[.ref (ad 137), .int x] s = true := hts _ (by decide +kernel)
  have hf63 : (Cond.fieldLink RX6 63 "RingPetitionModel" "thrown" "I").before #[.ref (ad 137), .int x] s = true := hts _ (by decide +kernel)
  have hin_RX6 : ∀ w ∈ u_ws RX6 TX6 27, w ∈ wsX6_recount := by decide +kernel
  have hS : va_S A s.heap s.heap [] := va_S.rf
  have hl := lv_entry ([.ref (ad 137), .int x]) (n := 3) (Nat.le_of_ble_eq_true rfl)
  rw [lg_entry_eq]
  generalize (lg_sl ([.ref (ad 137), .int x]) ++ List.replicate (3 - (lg_sl ([.ref (ad 137), .int x])).length) Slot.unset).toArray = ls at hl ⊢
  have hl : lv_has ls 3 [(0, .ref (ad 137)), (1, .int x)] := hl
  refine lv_aload_n hx hb dX6_recount_0 rfl (lv_at hl 0 rfl) ?_
  refine lv_aload_n hx hb dX6_recount_1 rfl (lv_at hl 0 rfl) ?_
  refine lv_iload_n hx hb dX6_recount_2 rfl (lv_at hl 1 rfl) ?_
  refine vp_callSi (W.runV (As := [.int x]) (rest := [.ref (ad 137)]) ⟨hx, hb, hml, hown, hts⟩ (kX6_noTopic l hn htc (by omega)) (cwV 1 hts gX6_recount_X6_noTopic rfl rfl rfl (by decide +kernel) ⟨Nat.le_of_ble_eq_true rfl, Nat.le_of_ble_eq_true rfl⟩) (ro_pv (ci := 5) (q := (RX6, TX6, 27)) hE hP rfl (wd_at (M := M) (show 137 < n by omega) ((g_137 cy ad) _))) rfl rfl hl.1 rfl (lv_room (Nat.le_of_ble_eq_true rfl)) dX6_recount_3 ⟨Nat.le_of_ble_eq_true rfl, Nat.le_of_ble_eq_true rfl⟩) (fun r_3 hr_3 => ?_)
  rcases hr_3 with ⟨hq_3, rfl⟩ | ⟨hq_3, rfl⟩
  · refine lv_if_eq (tgt := 13) hx hb dX6_recount_6 (by decide) (fun c_6 => ?_) (fun c_6 => ?_)
    · exact absurd c_6 (by decide)
    · have c_6 := mt (o_eq0 _).mpr c_6
      refine lv_iconst (v := (nI 1)) hx hb dX6_recount_9 (by decide) ?_
      refine lv_goto (tgt := 14) hx hb dX6_recount_10 (by decide) ?_
      refine wr_put (cy := cy) (ad := ad) (ex := []) (ci := 5) (C := RX6) (T := TX6) (N := 27) (ty := .int) hx hb hts hin_RX6 tyX6 tyX6_ok nmX6 hown hE.1 hP hD hS 137 (show 137 < n by omega) ((g_137 cy ad) _) rfl 0 (by decide) hf63 (fun _ h9 => h9) rfl (by decide +kernel) rfl rfl (by simp) (((g_137 cy ad) _).trans (by simp [st_at])) dX6_recount_14 (fun H locs hP hS => ?_)
      refine lv_aload_n hx hb dX6_recount_17 rfl (lv_at hl 0 rfl) ?_
      refine va_get (D := D) (ci := 5) (v := .int ((st M 137 0 (nI 1)) 137 0)) (C := RX6) (T := TX6) (N := 27) hx hb hts hin_RX6 hown hE.1 hP 137 (wd_at (M := (st M 137 0 (nI 1))) (show 137 < n by omega) ((g_137 cy ad) _)) rfl 0 (by decide) hf63 (fun _ h9 => h9) rfl dX6_recount_18 ?_
      refine wr_top (y := (nI 1)) (st_s _ _ _ _) ?_
      refine lv_if_eq (tgt := 26) hx hb dX6_recount_21 (by decide) (fun c_21 => ?_) (fun c_21 => ?_)
      · exact absurd c_21 (by decide)
      · have c_21 := mt (o_eq0 _).mpr c_21
        rw [nI_toInt (by omega)] at c_21
        refine lv_iconst (v := (nI 0)) hx hb dX6_recount_24 (by decide) ?_
        exact W.iret (v := (nI 0)) hx hb hr (fun t ht hW => ⟨⟨(nI 0), (st M 137 0 (nI 1)), rfl, Or.inr ⟨by omega, rfl⟩, (by show va_P D vwCl _ t.heap; rw [ht]; exact hP)⟩, hS.F ht⟩) hS.2.2 dX6_recount_25
  · refine lv_if_eq (tgt := 13) hx hb dX6_recount_6 (by decide) (fun c_6 => ?_) (fun c_6 => ?_)
    · have c_6 := (o_eq0 _).mp c_6
      refine lv_iconst (v := (nI 0)) hx hb dX6_recount_13 (by decide) ?_
      refine wr_put (cy := cy) (ad := ad) (ex := []) (ci := 5) (C := RX6) (T := TX6) (N := 27) (ty := .int) hx hb hts hin_RX6 tyX6 tyX6_ok nmX6 hown hE.1 hP hD hS 137 (show 137 < n by omega) ((g_137 cy ad) _) rfl 0 (by decide) hf63 (fun _ h9 => h9) rfl (by decide +kernel) rfl rfl (by simp) (((g_137 cy ad) _).trans (by simp [st_at])) dX6_recount_14 (fun H locs hP hS => ?_)
      refine lv_aload_n hx hb dX6_recount_17 rfl (lv_at hl 0 rfl) ?_
      refine va_get (D := D) (ci := 5) (v := .int ((st M 137 0 (nI 0)) 137 0)) (C := RX6) (T := TX6) (N := 27) hx hb hts hin_RX6 hown hE.1 hP 137 (wd_at (M := (st M 137 0 (nI 0))) (show 137 < n by omega) ((g_137 cy ad) _)) rfl 0 (by decide) hf63 (fun _ h9 => h9) rfl dX6_recount_18 ?_
      refine wr_top (y := (nI 0)) (st_s _ _ _ _) ?_
      refine lv_if_eq (tgt := 26) hx hb dX6_recount_21 (by decide) (fun c_21 => ?_) (fun c_21 => ?_)
      · have c_21 := (o_eq0 _).mp c_21
        rw [nI_toInt (by omega)] at c_21
        refine lv_iconst (v := (nI 0)) hx hb dX6_recount_26 (by decide) ?_
        refine lv_istore_n (lv' := [(2, .int (nI 0)), (0, .ref (ad 137)), (1, .int x)]) hx hb dX6_recount_27 rfl hl (by decide) rfl (fun ls hl => ?_)
        refine wloopW (fun kq (xq : Nat × Mm) H locs ls => match xq with | (i, Mk) => kq = sc - i ∧ (i ≤ sc ∧ scM (st M 137 0 (nI 0)) Mk ∧ ∀ j, j < i → mswP rs sr (vN x) M j) ∧ va_P D vwCl (wd cy ad n Mk ++ []) H ∧ va_S A s.heap H locs ∧ lv_has ls 3 [(2, .int (nI i)), (0, .ref (ad 137)), (1, .int x)]) (fun k28 x28 H locs ls h28 ih28 => ?_) _ (0, (st M 137 0 (nI 0))) _ _ ls ⟨rfl, ⟨Nat.zero_le _, sc_rf _, fun j h => absurd h (Nat.not_lt_zero j)⟩, hP, hS, lv_sub hl [0, 1, 2] rfl⟩
        obtain ⟨i, Mk⟩ := x28
        obtain ⟨hk28, hI, hP, hS, hl⟩ := h28
        refine lv_iload_n hx hb dX6_recount_28 rfl (lv_at hl 0 rfl) ?_
        refine lv_aload_n hx hb dX6_recount_29 rfl (lv_at hl 1 rfl) ?_
        refine va_get (D := D) (ci := 5) (v := .ref (ad 146)) (C := RX6) (T := TX6) (N := 27) hx hb hts hin_RX6 hown hE.1 hP 137 (wd_at (M := Mk) (show 137 < n by omega) ((g_137 cy ad) _)) rfl 12 (by decide) hf35 (fun _ h9 => h9) rfl dX6_recount_30 ?_
        refine lv_iload_n hx hb dX6_recount_33 rfl (lv_at hl 2 rfl) ?_
        refine wr_ald (cy := cy) (ad := ad) (ex := []) hx hb hE.1 hP 146 (show 146 < n by omega) ((g_146 cy ad) _) (vN x) (x_vN (by omega)) (by rw [vN_toInt]; omega) (by decide) dX6_recount_34 ?_
        refine wr_top (y := ((st M 137 0 (nI 0)) 146 (vN x))) (by rw [hI.2.1.1 _ (by decide) (by decide) (by decide)]) ?_
        refine wr_top (y := (M 146 (vN x))) (by rw [st_r _ _ _ (by decide)]) ?_
        refine wr_top (y := (nI sc)) hsc ?_
        refine lv_icmp_ge (tgt := 57) hx hb dX6_recount_35 (by decide) (fun c_35 => ?_) (fun c_35 => ?_)
        · have c_35 := (nI_leI (by omega) (by omega)).mp c_35
          refine lv_aload_n hx hb dX6_recount_57 rfl (lv_at hl 1 rfl) ?_
          refine va_get (D := D) (ci := 5) (v := .ref (ad 146)) (C := RX6) (T := TX6) (N := 27) hx hb hts hin_RX6 hown hE.1 hP 137 (wd_at (M := Mk) (show 137 < n by omega) ((g_137 cy ad) _)) rfl 12 (by decide) hf35 (fun _ h9 => h9) rfl dX6_recount_58 ?_
          refine lv_iload_n hx hb dX6_recount_61 rfl (lv_at hl 2 rfl) ?_
          refine wr_ald (cy := cy) (ad := ad) (ex := []) hx hb hE.1 hP 146 (show 146 < n by omega) ((g_146 cy ad) _) (vN x) (x_vN (by omega)) (by rw [vN_toInt]; omega) (by decide) dX6_recount_62 ?_
          refine wr_top (y := ((st M 137 0 (nI 0)) 146 (vN x))) (by rw [hI.2.1.1 _ (by decide) (by decide) (by decide)]) ?_
          refine wr_top (y := (M 146 (vN x))) (by rw [st_r _ _ _ (by decide)]) ?_
          refine wr_top (y := (nI sc)) hsc ?_
          exact W.iret (v := (nI sc)) hx hb hr (fun t ht hW => ⟨⟨(nI sc), Mk, rfl, Or.inl ⟨by omega, by omega, Or.inl ⟨fun j hj => hI.2.2 j (by omega), rfl⟩, hI.2.1⟩, (by show va_P D vwCl _ t.heap; rw [ht]; exact hP)⟩, hS.F ht⟩) hS.2.2 dX6_recount_63
        · have c_35 := mt (nI_leI (by omega) (by omega)).mpr c_35
          refine lv_aload_n hx hb dX6_recount_38 rfl (lv_at hl 1 rfl) ?_
          refine lv_iload_n hx hb dX6_recount_39 rfl (lv_at hl 2 rfl) ?_
          refine wr_top (y := (nI (vN x))) (x_vN (by omega)) ?_
          refine lv_iload_n hx hb dX6_recount_40 rfl (lv_at hl 0 rfl) ?_
          have hf : ∀ a, a ≠ 137 → a ≠ 152 → a ≠ 153 → Mk a = M a := fun a h1 h2 h3 => (hI.2.1.1 a h1 h2 h3).trans (s0_f a h1 h2 h3)
          refine va_calli (va_runV (As := [.int (nI (vN x)), .int (nI i)]) (rest := []) ⟨hx, hb, hml, hown, hts⟩ (kX6_isStoredGood l (M := Mk) hD hn (rs := rs) (sc := sc) (show vN x < 6 by rw [vN_toInt]; omega) hrc8 (by omega) hsc8 (tb_sc htb hf) (mr_sc hmr hf) (by rw [hf 144 (by decide) (by decide) (by decide), hf 143 (by decide) (by decide) (by decide)]; exact hmb _ (by rw [vN_toInt]; omega)) (mt_sc hmt hf)) (cwV 2 hts gX6_recount_X6_isStoredGood rfl rfl rfl (by decide +kernel) ⟨Nat.le_of_ble_eq_true rfl, Nat.le_of_ble_eq_true rfl⟩) (rw_pv (ci := 5) (q := (RX6, TX6, 27)) hE hP hS hA rfl (wd_at (M := Mk) (show 137 < n by omega) ((g_137 cy ad) _))) rfl rfl hl.1 rfl (lv_room (Nat.le_of_ble_eq_true rfl)) dX6_recount_41 ⟨Nat.le_of_ble_eq_true rfl, Nat.le_of_ble_eq_true rfl⟩) hS (fun q _ h => h) (fun q h => h) (fun r_41 u_41 t H1 locs ht hvm hr_41 hB_41 hz1 hk1 hS => ?_)
          have hP : va_P D vwCl (wd cy ad n u_41 ++ []) H1 := by rw [← ht]; exact hB_41
          clear hB_41 ht hvm hz1 hk1
          generalize H1 = H at hP hS ⊢
          obtain ⟨hr_41, hsu⟩ := hr_41
          have hr_41 := bP_iff (msw_sc hf) hr_41
          have hsu := sc_tr hI.2.1 hsu
          rcases hr_41 with ⟨hq_41, rfl⟩ | ⟨hq_41, rfl⟩
          · refine lv_if_ne (tgt := 51) hx hb dX6_recount_44 (by decide) (fun c_44 => ?_) (fun c_44 => ?_)
            · have c_44 := mt (o_eq0 _).mpr c_44
              refine lv_iinc (v := (nI (i + 1))) (lv' := [(2, .int (nI (i + 1))), (0, .ref (ad 137)), (1, .int x)]) hx hb dX6_recount_51 hl (k := 0) rfl (nI_1 _) (by decide) rfl (fun ls hl => ?_)
              refine lv_goto (tgt := 28) hx hb dX6_recount_54 (by decide) ?_
              exact ih28 _ (i + 1, u_41) _ _ _ (by omega) ⟨rfl, ⟨by omega, hsu, fun j hj => by rcases Nat.lt_or_ge j i with h | h <;> first | exact hI.2.2 j h | (rw [show j = i by omega]; exact hq_41)⟩, hP, hS, (lv_sub hl [0, 1, 2] rfl)⟩
            · exact absurd c_44 (by decide)
          · refine lv_if_ne (tgt := 51) hx hb dX6_recount_44 (by decide) (fun c_44 => ?_) (fun c_44 => ?_)
            · exact absurd c_44 (by decide)
            · have c_44 := (o_eq0 _).mp c_44
              refine lv_iconst (v := (-1)) hx hb dX6_recount_47 (by decide) ?_
              refine lv_iload_n hx hb dX6_recount_48 rfl (lv_at hl 0 rfl) ?_
              refine lv_isub hx hb dX6_recount_49 ?_
              exact W.iret (v := ((-1) - (nI i))) hx hb hr (fun t ht hW => ⟨⟨((-1) - (nI i)), u_41, rfl, Or.inl ⟨by omega, by omega, Or.inr ⟨i, by omega, hq_41, hI.2.2, rfl⟩, hsu⟩, (by show va_P D vwCl _ t.heap; rw [ht]; exact hP)⟩, hS.F ht⟩) hS.2.2 dX6_recount_50
      · exact absurd c_21 (by decide)
    · exact absurd c_6 (by decide)

set_option maxHeartbeats 4000000 in
set_option maxRecDepth 100000 in
/-- model export -/
theorem kX6_export (l : Launch) {D : va_G} {cy ad : Nat → Nat} {n : Nat} {M : Mm} {A : Nat → Prop} (hD : ∀ M, va_D A (wd cy ad n M ++ [])) (hn : 154 ≤ n) {tc : Nat} (htc : M 137 8 = nI tc) (htc6 : tc ≤ 6) {x : Int32} {rc sc : Nat} {rs sr : Nat → Nat} (hrc8 : rc ≤ 8) (hsc : M 146 (vN x) = nI sc) (hsc8 : sc ≤ 8) (hmr : mrP rc rs M) (hmt : mtP rc sr sc (vN x) M) (hz6 : ∀ k, rs (sr k) ≤ 6) : Met l yX6_export wsX6_export ({ frames := 1, cells := 0, slots := 0, locals := 21 }) (va_Pc [.ref (ad 137), .int x] (RW D cy (wd cy ad n M ++ []) A)) (va_Qi (S := Mm) (fun r u => (0 ≤ x.toInt ∧ x.toInt < (tc : Int) ∧ r = nI (boN (fun k => rs (sr k)) sc) ∧ bdM (st M 137 0 (nI 0)) u (boN (fun k => rs (sr k)) sc) ((bfF (M 143 (vN x)) (nI sc) (fun k => rs (sr k)) (fun k => fun j => M 142 (6 * sr k + j)) (fun k => M 148 (8 * vN x + k)) (fun k => fun j => M 149 (8 * (8 * vN x + k) + j)) sc))) ∨ (¬ (0 ≤ x.toInt ∧ x.toInt < (tc : Int)) ∧ u = (st M 137 0 (nI 1)))) (fun u t => va_P D vwCl (wd cy ad n u ++ []) t.heap) A) 0 0 A := by
  refine Met.ofW (cc := cX6_export) (maxL := 6) (ret := (some .int)) (by decide +kernel) rfl ?_
  intro p e s m args below meth c s₁ B hml hv
  obtain ⟨rfl, hP, hE, hA⟩ := hv
  have hx := B.exec
  have hb := B.bytes
  have hr := B.returns
  have hts := atoms_spec (ws := wsX6_export) B.pre
  have hown : s.vm.findClass RX6 = some m.cls := findClass_of_methodNamed B.named
  have hlocks := B.notSynchronized
  have hf147 : (Cond.fieldLink RX6 147 "RingPetitionModel" "bundled" "I").before #[.ref (ad 137), .int x] s = true := hts _ (by decide +kernel)
  have hf19 : (Cond.fieldLink RX6 19 "RingPetitionModel" "ringSize" "[I").before #[.ref (ad 137), .int x] s = true := hts _ (by decide +kernel)
  have hf22 : (Cond.fieldLink RX6 22 "RingPetitionModel" "ringKeys" "[I").before #[.ref (ad 137), .int x] s = true := hts _ (by decide +kernel)
  have hf25 : (Cond.fieldLink RX6 25 "RingPetitionModel" "values" "[I").before #[.ref (ad 137), .int x] s = true := hts _ (by decide +kernel)
  have hf35 : (Cond.fieldLink RX6 35 "RingPetitionModel" "stored" "[I").before #[.ref (ad 137), .int x] s = true := hts _ (by decide +kernel)
  have hf38 : (Cond.fieldLink RX6 38 "RingPetitionModel" "signRing" "[I").before #[.ref (ad 137), .int x] s = true := hts _ (by decide +kernel)
  have hf41 : (Cond.fieldLink RX6 41 "RingPetitionModel" "signMotion" "[I").before #[.ref (ad 137), .int x] s = true := hts _ (by decide +kernel)
  have hf44 : (Cond.fieldLink RX6 44 "RingPetitionModel" "signed" "[I").before #[.ref (ad 137), .int x] s = true := hts _ (by decide +kernel)
  have hf63 : (Cond.fieldLink RX6 63 "RingPetitionModel" "thrown" "I").before #[.ref (ad 137), .int x] s = true := hts _ (by decide +kernel)
  have hin_RX6 : ∀ w ∈ u_ws RX6 TX6 27, w ∈ wsX6_export := by decide +kernel
  have hS : va_S A s.heap s.heap [] := va_S.rf
  have hl := lv_entry ([.ref (ad 137), .int x]) (n := 6) (Nat.le_of_ble_eq_true rfl)
  rw [lg_entry_eq]
  generalize (lg_sl ([.ref (ad 137), .int x]) ++ List.replicate (6 - (lg_sl ([.ref (ad 137), .int x])).length) Slot.unset).toArray = ls at hl ⊢
  have hl : lv_has ls 6 [(0, .ref (ad 137)), (1, .int x)] := hl
  refine lv_aload_n hx hb dX6_export_0 rfl (lv_at hl 0 rfl) ?_
  refine lv_aload_n hx hb dX6_export_1 rfl (lv_at hl 0 rfl) ?_
  refine lv_iload_n hx hb dX6_export_2 rfl (lv_at hl 1 rfl) ?_
  refine vp_callSi (W.runV (As := [.int x]) (rest := [.ref (ad 137)]) ⟨hx, hb, hml, hown, hts⟩ (kX6_noTopic l hn htc (by omega)) (cwV 1 hts gX6_export_X6_noTopic rfl rfl rfl (by decide +kernel) ⟨Nat.le_of_ble_eq_true rfl, Nat.le_of_ble_eq_true rfl⟩) (ro_pv (ci := 5) (q := (RX6, TX6, 27)) hE hP rfl (wd_at (M := M) (show 137 < n by omega) ((g_137 cy ad) _))) rfl rfl hl.1 rfl (lv_room (Nat.le_of_ble_eq_true rfl)) dX6_export_3 ⟨Nat.le_of_ble_eq_true rfl, Nat.le_of_ble_eq_true rfl⟩) (fun r_3 hr_3 => ?_)
  rcases hr_3 with ⟨hq_3, rfl⟩ | ⟨hq_3, rfl⟩
  · refine lv_if_eq (tgt := 13) hx hb dX6_export_6 (by decide) (fun c_6 => ?_) (fun c_6 => ?_)
    · exact absurd c_6 (by decide)
    · have c_6 := mt (o_eq0 _).mpr c_6
      refine lv_iconst (v := (nI 1)) hx hb dX6_export_9 (by decide) ?_
      refine lv_goto (tgt := 14) hx hb dX6_export_10 (by decide) ?_
      refine wr_put (cy := cy) (ad := ad) (ex := []) (ci := 5) (C := RX6) (T := TX6) (N := 27) (ty := .int) hx hb hts hin_RX6 tyX6 tyX6_ok nmX6 hown hE.1 hP hD hS 137 (show 137 < n by omega) ((g_137 cy ad) _) rfl 0 (by decide) hf63 (fun _ h9 => h9) rfl (by decide +kernel) rfl rfl (by simp) (((g_137 cy ad) _).trans (by simp [st_at])) dX6_export_14 (fun H locs hP hS => ?_)
      refine lv_aload_n hx hb dX6_export_17 rfl (lv_at hl 0 rfl) ?_
      refine va_get (D := D) (ci := 5) (v := .int ((st M 137 0 (nI 1)) 137 0)) (C := RX6) (T := TX6) (N := 27) hx hb hts hin_RX6 hown hE.1 hP 137 (wd_at (M := (st M 137 0 (nI 1))) (show 137 < n by omega) ((g_137 cy ad) _)) rfl 0 (by decide) hf63 (fun _ h9 => h9) rfl dX6_export_18 ?_
      refine wr_top (y := (nI 1)) (st_s _ _ _ _) ?_
      refine lv_if_eq (tgt := 26) hx hb dX6_export_21 (by decide) (fun c_21 => ?_) (fun c_21 => ?_)
      · exact absurd c_21 (by decide)
      · have c_21 := mt (o_eq0 _).mpr c_21
        rw [nI_toInt (by omega)] at c_21
        refine lv_iconst (v := (nI 0)) hx hb dX6_export_24 (by decide) ?_
        exact W.iret (v := (nI 0)) hx hb hr (fun t ht hW => ⟨⟨(nI 0), (st M 137 0 (nI 1)), rfl, Or.inr ⟨by omega, rfl⟩, (by show va_P D vwCl _ t.heap; rw [ht]; exact hP)⟩, hS.F ht⟩) hS.2.2 dX6_export_25
  · refine lv_if_eq (tgt := 13) hx hb dX6_export_6 (by decide) (fun c_6 => ?_) (fun c_6 => ?_)
    · have c_6 := (o_eq0 _).mp c_6
      refine lv_iconst (v := (nI 0)) hx hb dX6_export_13 (by decide) ?_
      refine wr_put (cy := cy) (ad := ad) (ex := []) (ci := 5) (C := RX6) (T := TX6) (N := 27) (ty := .int) hx hb hts hin_RX6 tyX6 tyX6_ok nmX6 hown hE.1 hP hD hS 137 (show 137 < n by omega) ((g_137 cy ad) _) rfl 0 (by decide) hf63 (fun _ h9 => h9) rfl (by decide +kernel) rfl rfl (by simp) (((g_137 cy ad) _).trans (by simp [st_at])) dX6_export_14 (fun H locs hP hS => ?_)
      refine lv_aload_n hx hb dX6_export_17 rfl (lv_at hl 0 rfl) ?_
      refine va_get (D := D) (ci := 5) (v := .int ((st M 137 0 (nI 0)) 137 0)) (C := RX6) (T := TX6) (N := 27) hx hb hts hin_RX6 hown hE.1 hP 137 (wd_at (M := (st M 137 0 (nI 0))) (show 137 < n by omega) ((g_137 cy ad) _)) rfl 0 (by decide) hf63 (fun _ h9 => h9) rfl dX6_export_18 ?_
      refine wr_top (y := (nI 0)) (st_s _ _ _ _) ?_
      refine lv_if_eq (tgt := 26) hx hb dX6_export_21 (by decide) (fun c_21 => ?_) (fun c_21 => ?_)
      · have c_21 := (o_eq0 _).mp c_21
        rw [nI_toInt (by omega)] at c_21
        refine lv_aload_n hx hb dX6_export_26 rfl (lv_at hl 0 rfl) ?_
        refine lv_iconst (v := (nI 0)) hx hb dX6_export_27 (by decide) ?_
        refine wr_put (cy := cy) (ad := ad) (ex := []) (ci := 5) (C := RX6) (T := TX6) (N := 27) (ty := .int) hx hb hts hin_RX6 tyX6 tyX6_ok nmX6 hown hE.1 hP hD hS 137 (show 137 < n by omega) ((g_137 cy ad) _) rfl 18 (by decide) hf147 (fun _ h9 => h9) rfl (by decide +kernel) rfl rfl (by simp) (((g_137 cy ad) _).trans (by simp [st_at])) dX6_export_28 (fun H locs hP hS => ?_)
        refine lv_aload_n hx hb dX6_export_31 rfl (lv_at hl 0 rfl) ?_
        refine lv_aload_n hx hb dX6_export_32 rfl (lv_at hl 0 rfl) ?_
        refine va_get (D := D) (ci := 5) (v := .ref (ad 143)) (C := RX6) (T := TX6) (N := 27) hx hb hts hin_RX6 hown hE.1 hP 137 (wd_at (M := (st (st M 137 0 (nI 0)) 137 18 (nI 0))) (show 137 < n by omega) ((g_137 cy ad) _)) rfl 9 (by decide) hf25 (fun _ h9 => h9) rfl dX6_export_33 ?_
        refine lv_iload_n hx hb dX6_export_36 rfl (lv_at hl 1 rfl) ?_
        refine wr_ald (cy := cy) (ad := ad) (ex := []) hx hb hE.1 hP 143 (show 143 < n by omega) ((g_143 cy ad) _) (vN x) (x_vN (by omega)) (by rw [vN_toInt]; omega) (by decide) dX6_export_37 ?_
        refine wr_top (y := ((st M 137 0 (nI 0)) 143 (vN x))) (by rw [st_r _ _ _ (by decide)]) ?_
        refine wr_top (y := (M 143 (vN x))) (by rw [st_r _ _ _ (by decide)]) ?_
        refine va_callv (va_runV (As := [.int (M 143 (vN x))]) (rest := []) ⟨hx, hb, hml, hown, hts⟩ (kX6_put l hD hn (b := 0) (st_s _ _ _ _) (by decide)) (cwV 1 hts gX6_export_X6_put rfl rfl rfl (by decide +kernel) ⟨Nat.le_of_ble_eq_true rfl, Nat.le_of_ble_eq_true rfl⟩) (rw_pv (ci := 5) (q := (RX6, TX6, 27)) hE hP hS hA rfl (wd_at (M := (st (st M 137 0 (nI 0)) 137 18 (nI 0))) (show 137 < n by omega) ((g_137 cy ad) _))) rfl rfl hl.1 rfl (lv_room (Nat.le_of_ble_eq_true rfl)) dX6_export_38 ⟨Nat.le_of_ble_eq_true rfl, Nat.le_of_ble_eq_true rfl⟩) hS (fun q _ h => h) (fun q h => h) (fun u_38 t H1 locs ht hvm hr_38 hB_38 hz1 hk1 hS => ?_)
        have hP : va_P D vwCl (wd cy ad n u_38 ++ []) H1 := by rw [← ht]; exact hB_38
        clear hB_38 ht hvm hz1 hk1
        generalize H1 = H at hP hS ⊢
        subst hr_38
        have hN0 : bdM (st M 137 0 (nI 0)) (st (st M 137 0 (nI 0)) 137 18 (nI 0)) 0 (fun _ => 0) := ⟨fun a a0 a7 => st_r _ _ _ a0, fun c hc => st_c _ _ _ hc, st_s _ _ _ _, fun j hj => absurd hj (Nat.not_lt_zero j)⟩
        have hN1 := bm_put (x := M 143 (vN x)) hN0
        refine lv_aload_n hx hb dX6_export_41 rfl (lv_at hl 0 rfl) ?_
        refine lv_aload_n hx hb dX6_export_42 rfl (lv_at hl 0 rfl) ?_
        refine va_get (D := D) (ci := 5) (v := .ref (ad 146)) (C := RX6) (T := TX6) (N := 27) hx hb hts hin_RX6 hown hE.1 hP 137 (wd_at (M := (st (st (st (st M 137 0 (nI 0)) 137 18 (nI 0)) 151 0 (M 143 (vN x))) 137 18 (nI (0 + 1)))) (show 137 < n by omega) ((g_137 cy ad) _)) rfl 12 (by decide) hf35 (fun _ h9 => h9) rfl dX6_export_43 ?_
        refine lv_iload_n hx hb dX6_export_46 rfl (lv_at hl 1 rfl) ?_
        refine wr_ald (cy := cy) (ad := ad) (ex := []) hx hb hE.1 hP 146 (show 146 < n by omega) ((g_146 cy ad) _) (vN x) (x_vN (by omega)) (by rw [vN_toInt]; omega) (by decide) dX6_export_47 ?_
        refine wr_top (y := ((st (st (st M 137 0 (nI 0)) 137 18 (nI 0)) 151 0 (M 143 (vN x))) 146 (vN x))) (by rw [st_r _ _ _ (by decide)]) ?_
        refine wr_top (y := ((st (st M 137 0 (nI 0)) 137 18 (nI 0)) 146 (vN x))) (by rw [st_r _ _ _ (by decide)]) ?_
        refine wr_top (y := ((st M 137 0 (nI 0)) 146 (vN x))) (by rw [st_r _ _ _ (by decide)]) ?_
        refine wr_top (y := (M 146 (vN x))) (by rw [st_r _ _ _ (by decide)]) ?_
        refine wr_top (y := (nI sc)) hsc ?_
        refine va_callv (va_runV (As := [.int (nI sc)]) (rest := []) ⟨hx, hb, hml, hown, hts⟩ (kX6_put l hD hn (b := 0 + 1) hN1.2.2.1 (by decide)) (cwV 1 hts gX6_export_X6_put rfl rfl rfl (by decide +kernel) ⟨Nat.le_of_ble_eq_true rfl, Nat.le_of_ble_eq_true rfl⟩) (rw_pv (ci := 5) (q := (RX6, TX6, 27)) hE hP hS hA rfl (wd_at (M := (st (st (st (st M 137 0 (nI 0)) 137 18 (nI 0)) 151 0 (M 143 (vN x))) 137 18 (nI (0 + 1)))) (show 137 < n by omega) ((g_137 cy ad) _))) rfl rfl hl.1 rfl (lv_room (Nat.le_of_ble_eq_true rfl)) dX6_export_48 ⟨Nat.le_of_ble_eq_true rfl, Nat.le_of_ble_eq_true rfl⟩) hS (fun q _ h => h) (fun q h => h) (fun u_48 t H1 locs ht hvm hr_48 hB_48 hz1 hk1 hS => ?_)
        have hP : va_P D vwCl (wd cy ad n u_48 ++ []) H1 := by rw [← ht]; exact hB_48
        clear hB_48 ht hvm hz1 hk1
        generalize H1 = H at hP hS ⊢
        subst hr_48
        have hN2 := bm_put (x := nI sc) hN1
        refine lv_iconst (v := (nI 0)) hx hb dX6_export_51 (by decide) ?_
        refine lv_istore_n (lv' := [(2, .int (nI 0)), (0, .ref (ad 137)), (1, .int x)]) hx hb dX6_export_52 rfl hl (by decide) rfl (fun ls hl => ?_)
        refine wloopW (fun kq (xq : Nat × Mm) H locs ls => match xq with | (k, Mk) => kq = sc - k ∧ (k ≤ sc ∧ bdM (st M 137 0 (nI 0)) Mk (boN (fun k => rs (sr k)) k) ((bfF (M 143 (vN x)) (nI sc) (fun k => rs (sr k)) (fun k => fun j => M 142 (6 * sr k + j)) (fun k => M 148 (8 * vN x + k)) (fun k => fun j => M 149 (8 * (8 * vN x + k) + j)) k))) ∧ va_P D vwCl (wd cy ad n Mk ++ []) H ∧ va_S A s.heap H locs ∧ lv_has ls 6 [(2, .int (nI k)), (0, .ref (ad 137)), (1, .int x)]) (fun k53 x53 H locs ls h53 ih53 => ?_) _ (0, (st (st (st (st (st (st M 137 0 (nI 0)) 137 18 (nI 0)) 151 0 (M 143 (vN x))) 137 18 (nI (0 + 1))) 151 (0 + 1) (nI sc)) 137 18 (nI ((0 + 1) + 1)))) _ _ ls ⟨rfl, ⟨Nat.zero_le _, bm_cong hN2 (fun j hj => bf_0 hj)⟩, hP, hS, lv_sub hl [0, 1, 2] rfl⟩
        obtain ⟨k, Mk⟩ := x53
        obtain ⟨hk53, hI, hP, hS, hl⟩ := h53
        refine lv_iload_n hx hb dX6_export_53 rfl (lv_at hl 0 rfl) ?_
        refine lv_aload_n hx hb dX6_export_54 rfl (lv_at hl 1 rfl) ?_
        refine va_get (D := D) (ci := 5) (v := .ref (ad 146)) (C := RX6) (T := TX6) (N := 27) hx hb hts hin_RX6 hown hE.1 hP 137 (wd_at (M := Mk) (show 137 < n by omega) ((g_137 cy ad) _)) rfl 12 (by decide) hf35 (fun _ h9 => h9) rfl dX6_export_55 ?_
        refine lv_iload_n hx hb dX6_export_58 rfl (lv_at hl 2 rfl) ?_
        refine wr_ald (cy := cy) (ad := ad) (ex := []) hx hb hE.1 hP 146 (show 146 < n by omega) ((g_146 cy ad) _) (vN x) (x_vN (by omega)) (by rw [vN_toInt]; omega) (by decide) dX6_export_59 ?_
        refine wr_top (y := ((st M 137 0 (nI 0)) 146 (vN x))) (by rw [hI.2.1 _ (by decide) (by decide)]) ?_
        refine wr_top (y := (M 146 (vN x))) (by rw [st_r _ _ _ (by decide)]) ?_
        refine wr_top (y := (nI sc)) hsc ?_
        refine lv_icmp_ge (tgt := 182) hx hb dX6_export_60 (by decide) (fun c_60 => ?_) (fun c_60 => ?_)
        · have c_60 := (nI_leI (by omega) (by omega)).mp c_60
          refine lv_aload_n hx hb dX6_export_182 rfl (lv_at hl 1 rfl) ?_
          refine va_get (D := D) (ci := 5) (v := .int (Mk 137 18)) (C := RX6) (T := TX6) (N := 27) hx hb hts hin_RX6 hown hE.1 hP 137 (wd_at (M := Mk) (show 137 < n by omega) ((g_137 cy ad) _)) rfl 18 (by decide) hf147 (fun _ h9 => h9) rfl dX6_export_183 ?_
          refine wr_top (y := (nI (boN (fun k => rs (sr k)) k))) hI.2.2.2.1 ?_
          have hke : k = sc := by omega
          exact W.iret (v := (nI (boN (fun k => rs (sr k)) k))) hx hb hr (fun t ht hW => ⟨⟨(nI (boN (fun k => rs (sr k)) k)), Mk, rfl, Or.inl ⟨by omega, by omega, by rw [hke], by have h9 := hI.2; rw [hke] at h9; exact h9⟩, (by show va_P D vwCl _ t.heap; rw [ht]; exact hP)⟩, hS.F ht⟩) hS.2.2 dX6_export_186
        · have c_60 := mt (nI_leI (by omega) (by omega)).mpr c_60
          obtain ⟨hm1, hm2⟩ := hmt k (by omega)
          obtain ⟨hm3, hm4, hm5⟩ := hmr _ hm2
          have hbo := bo_le (sz := (fun k => rs (sr k))) hz6 k
          have htx : vN x < 6 := by rw [vN_toInt]; omega
          refine lv_bipush (v := (nI 8)) hx hb dX6_export_63 (by decide) ?_
          refine lv_iload_n hx hb dX6_export_65 rfl (lv_at hl 2 rfl) ?_
          refine lv_imul hx hb dX6_export_66 ?_
          refine wr_top (y := (nI (8 * vN x))) (xm_vN 8 (by omega)) ?_
          refine lv_iload_n hx hb dX6_export_67 rfl (lv_at hl 0 rfl) ?_
          refine lv_iadd hx hb dX6_export_68 ?_
          refine wr_top (y := (nI (8 * vN x + k))) (nI_add _ _) ?_
          refine lv_istore_n (lv' := [(3, .int (nI (8 * vN x + k))), (2, .int (nI k)), (0, .ref (ad 137)), (1, .int x)]) hx hb dX6_export_69 rfl hl (by decide) rfl (fun ls hl => ?_)
          refine lv_aload_n hx hb dX6_export_70 rfl (lv_at hl 2 rfl) ?_
          refine va_get (D := D) (ci := 5) (v := .ref (ad 147)) (C := RX6) (T := TX6) (N := 27) hx hb hts hin_RX6 hown hE.1 hP 137 (wd_at (M := Mk) (show 137 < n by omega) ((g_137 cy ad) _)) rfl 13 (by decide) hf38 (fun _ h9 => h9) rfl dX6_export_71 ?_
          refine lv_iload_n hx hb dX6_export_74 rfl (lv_at hl 0 rfl) ?_
          refine wr_ald (cy := cy) (ad := ad) (ex := []) hx hb hE.1 hP 147 (show 147 < n by omega) ((g_147 cy ad) _) (8 * vN x + k) rfl (by omega) (by decide) dX6_export_75 ?_
          refine wr_top (y := ((st M 137 0 (nI 0)) 147 (8 * vN x + k))) (by rw [hI.2.1 _ (by decide) (by decide)]) ?_
          refine wr_top (y := (M 147 (8 * vN x + k))) (by rw [st_r _ _ _ (by decide)]) ?_
          refine wr_top (y := (nI (sr k))) hm1 ?_
          refine lv_istore (lv' := [(4, .int (nI (sr k))), (3, .int (nI (8 * vN x + k))), (2, .int (nI k)), (0, .ref (ad 137)), (1, .int x)]) hx hb dX6_export_76 hl (by decide) rfl (fun ls hl => ?_)
          refine lv_aload_n hx hb dX6_export_78 rfl (lv_at hl 3 rfl) ?_
          refine lv_aload_n hx hb dX6_export_79 rfl (lv_at hl 3 rfl) ?_
          refine va_get (D := D) (ci := 5) (v := .ref (ad 141)) (C := RX6) (T := TX6) (N := 27) hx hb hts hin_RX6 hown hE.1 hP 137 (wd_at (M := Mk) (show 137 < n by omega) ((g_137 cy ad) _)) rfl 6 (by decide) hf19 (fun _ h9 => h9) rfl dX6_export_80 ?_
          refine lv_iload hx hb dX6_export_83 (lv_at hl 0 rfl) ?_
          refine wr_ald (cy := cy) (ad := ad) (ex := []) hx hb hE.1 hP 141 (show 141 < n by omega) ((g_141 cy ad) _) (sr k) rfl (by omega) (by decide) dX6_export_85 ?_
          refine wr_top (y := ((st M 137 0 (nI 0)) 141 (sr k))) (by rw [hI.2.1 _ (by decide) (by decide)]) ?_
          refine wr_top (y := (M 141 (sr k))) (by rw [st_r _ _ _ (by decide)]) ?_
          refine wr_top (y := (nI (rs (sr k)))) hm3 ?_
          refine va_callv (va_runV (As := [.int (nI (rs (sr k)))]) (rest := []) ⟨hx, hb, hml, hown, hts⟩ (kX6_put l (M := Mk) hD hn (b := boN (fun k => rs (sr k)) k) hI.2.2.2.1 (by omega)) (cwV 1 hts gX6_export_X6_put rfl rfl rfl (by decide +kernel) ⟨Nat.le_of_ble_eq_true rfl, Nat.le_of_ble_eq_true rfl⟩) (rw_pv (ci := 5) (q := (RX6, TX6, 27)) hE hP hS hA rfl (wd_at (M := Mk) (show 137 < n by omega) ((g_137 cy ad) _))) rfl rfl hl.1 rfl (lv_room (Nat.le_of_ble_eq_true rfl)) dX6_export_86 ⟨Nat.le_of_ble_eq_true rfl, Nat.le_of_ble_eq_true rfl⟩) hS (fun q _ h => h) (fun q h => h) (fun u_86 t H1 locs ht hvm hr_86 hB_86 hz1 hk1 hS => ?_)
          have hP : va_P D vwCl (wd cy ad n u_86 ++ []) H1 := by rw [← ht]; exact hB_86
          clear hB_86 ht hvm hz1 hk1
          generalize H1 = H at hP hS ⊢
          subst hr_86
          refine lv_iconst (v := (nI 0)) hx hb dX6_export_89 (by decide) ?_
          refine lv_istore (lv' := [(5, .int (nI 0)), (4, .int (nI (sr k))), (3, .int (nI (8 * vN x + k))), (2, .int (nI k)), (0, .ref (ad 137)), (1, .int x)]) hx hb dX6_export_90 hl (by decide) rfl (fun ls hl => ?_)
          refine wloopW (fun kq (xq : Nat × Mm) H locs ls => match xq with | (i, Mj) => kq = rs (sr k) - i ∧ (i ≤ rs (sr k) ∧ bdM (st M 137 0 (nI 0)) Mj (boN (fun k => rs (sr k)) k + 1 + i) (pcF ((bfF (M 143 (vN x)) (nI sc) (fun k => rs (sr k)) (fun k => fun j => M 142 (6 * sr k + j)) (fun k => M 148 (8 * vN x + k)) (fun k => fun j => M 149 (8 * (8 * vN x + k) + j)) k)) (boN (fun k => rs (sr k)) k) (rs (sr k)) (fun j => M 142 (6 * sr k + j)) (M 148 (8 * vN x + k)) (fun j => M 149 (8 * (8 * vN x + k) + j)))) ∧ va_P D vwCl (wd cy ad n Mj ++ []) H ∧ va_S A s.heap H locs ∧ lv_has ls 6 [(5, .int (nI i)), (0, .ref (ad 137)), (1, .int x), (2, .int (nI k)), (3, .int (nI (8 * vN x + k))), (4, .int (nI (sr k)))]) (fun k92 x92 H locs ls h92 ih92 => ?_) _ (0, (st (st Mk 151 (boN (fun k => rs (sr k)) k) (nI (rs (sr k)))) 137 18 (nI ((boN (fun k => rs (sr k)) k) + 1)))) _ _ ls ⟨rfl, ⟨Nat.zero_le _, bm_cong (bm_put hI.2) (fun j hj => pc_0 hj)⟩, hP, hS, lv_sub hl [0, 4, 5, 3, 2, 1] rfl⟩
          obtain ⟨i, Mj⟩ := x92
          obtain ⟨hk92, hJ, hP, hS, hl⟩ := h92
          refine lv_iload hx hb dX6_export_92 (lv_at hl 0 rfl) ?_
          refine lv_aload_n hx hb dX6_export_94 rfl (lv_at hl 1 rfl) ?_
          refine va_get (D := D) (ci := 5) (v := .ref (ad 141)) (C := RX6) (T := TX6) (N := 27) hx hb hts hin_RX6 hown hE.1 hP 137 (wd_at (M := Mj) (show 137 < n by omega) ((g_137 cy ad) _)) rfl 6 (by decide) hf19 (fun _ h9 => h9) rfl dX6_export_95 ?_
          refine lv_iload hx hb dX6_export_98 (lv_at hl 5 rfl) ?_
          refine wr_ald (cy := cy) (ad := ad) (ex := []) hx hb hE.1 hP 141 (show 141 < n by omega) ((g_141 cy ad) _) (sr k) rfl (by omega) (by decide) dX6_export_100 ?_
          refine wr_top (y := ((st M 137 0 (nI 0)) 141 (sr k))) (by rw [hJ.2.1 _ (by decide) (by decide)]) ?_
          refine wr_top (y := (M 141 (sr k))) (by rw [st_r _ _ _ (by decide)]) ?_
          refine wr_top (y := (nI (rs (sr k)))) hm3 ?_
          refine lv_icmp_ge (tgt := 127) hx hb dX6_export_101 (by decide) (fun c_101 => ?_) (fun c_101 => ?_)
          · have c_101 := (nI_leI (by omega) (by omega)).mp c_101
            refine lv_aload_n hx hb dX6_export_127 rfl (lv_at hl 1 rfl) ?_
            refine lv_aload_n hx hb dX6_export_128 rfl (lv_at hl 1 rfl) ?_
            refine va_get (D := D) (ci := 5) (v := .ref (ad 148)) (C := RX6) (T := TX6) (N := 27) hx hb hts hin_RX6 hown hE.1 hP 137 (wd_at (M := Mj) (show 137 < n by omega) ((g_137 cy ad) _)) rfl 14 (by decide) hf41 (fun _ h9 => h9) rfl dX6_export_129 ?_
            refine lv_iload_n hx hb dX6_export_132 rfl (lv_at hl 4 rfl) ?_
            refine wr_ald (cy := cy) (ad := ad) (ex := []) hx hb hE.1 hP 148 (show 148 < n by omega) ((g_148 cy ad) _) (8 * vN x + k) rfl (by omega) (by decide) dX6_export_133 ?_
            refine wr_top (y := ((st M 137 0 (nI 0)) 148 (8 * vN x + k))) (by rw [hJ.2.1 _ (by decide) (by decide)]) ?_
            refine wr_top (y := (M 148 (8 * vN x + k))) (by rw [st_r _ _ _ (by decide)]) ?_
            refine va_callv (va_runV (As := [.int (M 148 (8 * vN x + k))]) (rest := []) ⟨hx, hb, hml, hown, hts⟩ (kX6_put l (M := Mj) hD hn (b := boN (fun k => rs (sr k)) k + 1 + i) hJ.2.2.2.1 (by omega)) (cwV 1 hts gX6_export_X6_put rfl rfl rfl (by decide +kernel) ⟨Nat.le_of_ble_eq_true rfl, Nat.le_of_ble_eq_true rfl⟩) (rw_pv (ci := 5) (q := (RX6, TX6, 27)) hE hP hS hA rfl (wd_at (M := Mj) (show 137 < n by omega) ((g_137 cy ad) _))) rfl rfl hl.1 rfl (lv_room (Nat.le_of_ble_eq_true rfl)) dX6_export_134 ⟨Nat.le_of_ble_eq_true rfl, Nat.le_of_ble_eq_true rfl⟩) hS (fun q _ h => h) (fun q h => h) (fun u_134 t H1 locs ht hvm hr_134 hB_134 hz1 hk1 hS => ?_)
            have hP : va_P D vwCl (wd cy ad n u_134 ++ []) H1 := by rw [← ht]; exact hB_134
            clear hB_134 ht hvm hz1 hk1
            generalize H1 = H at hP hS ⊢
            subst hr_134
            refine lv_iconst (v := (nI 0)) hx hb dX6_export_137 (by decide) ?_
            refine lv_istore (lv' := [(5, .int (nI 0)), (0, .ref (ad 137)), (1, .int x), (2, .int (nI k)), (3, .int (nI (8 * vN x + k))), (4, .int (nI (sr k)))]) hx hb dX6_export_138 hl (by decide) rfl (fun ls hl => ?_)
            refine wloopW (fun kq (xq : Nat × Mm) H locs ls => match xq with | (i2, Mo) => kq = 2 + rs (sr k) - i2 ∧ (i2 ≤ 2 + rs (sr k) ∧ bdM (st M 137 0 (nI 0)) Mo (boN (fun k => rs (sr k)) k + 2 + rs (sr k) + i2) (pcF ((bfF (M 143 (vN x)) (nI sc) (fun k => rs (sr k)) (fun k => fun j => M 142 (6 * sr k + j)) (fun k => M 148 (8 * vN x + k)) (fun k => fun j => M 149 (8 * (8 * vN x + k) + j)) k)) (boN (fun k => rs (sr k)) k) (rs (sr k)) (fun j => M 142 (6 * sr k + j)) (M 148 (8 * vN x + k)) (fun j => M 149 (8 * (8 * vN x + k) + j)))) ∧ va_P D vwCl (wd cy ad n Mo ++ []) H ∧ va_S A s.heap H locs ∧ lv_has ls 6 [(5, .int (nI i2)), (0, .ref (ad 137)), (1, .int x), (2, .int (nI k)), (3, .int (nI (8 * vN x + k))), (4, .int (nI (sr k)))]) (fun k140 x140 H locs ls h140 ih140 => ?_) _ (0, (st (st Mj 151 (boN (fun k => rs (sr k)) k + 1 + i) (M 148 (8 * vN x + k))) 137 18 (nI ((boN (fun k => rs (sr k)) k + 1 + i) + 1)))) _ _ ls ⟨rfl, ⟨Nat.zero_le _, by rw [show boN (fun k => rs (sr k)) k + 2 + rs (sr k) + 0 = boN (fun k => rs (sr k)) k + 1 + i + 1 by omega]; exact bm_cong (bm_put hJ.2) (fun j hj => pc_2 hj (by omega))⟩, hP, hS, lv_sub hl [0, 1, 2, 3, 4, 5] rfl⟩
            obtain ⟨i2, Mo⟩ := x140
            obtain ⟨hk140, hK, hP, hS, hl⟩ := h140
            refine lv_iload hx hb dX6_export_140 (lv_at hl 0 rfl) ?_
            refine lv_iconst (v := (nI 2)) hx hb dX6_export_142 (by decide) ?_
            refine lv_aload_n hx hb dX6_export_143 rfl (lv_at hl 1 rfl) ?_
            refine va_get (D := D) (ci := 5) (v := .ref (ad 141)) (C := RX6) (T := TX6) (N := 27) hx hb hts hin_RX6 hown hE.1 hP 137 (wd_at (M := Mo) (show 137 < n by omega) ((g_137 cy ad) _)) rfl 6 (by decide) hf19 (fun _ h9 => h9) rfl dX6_export_144 ?_
            refine lv_iload hx hb dX6_export_147 (lv_at hl 5 rfl) ?_
            refine wr_ald (cy := cy) (ad := ad) (ex := []) hx hb hE.1 hP 141 (show 141 < n by omega) ((g_141 cy ad) _) (sr k) rfl (by omega) (by decide) dX6_export_149 ?_
            refine wr_top (y := ((st M 137 0 (nI 0)) 141 (sr k))) (by rw [hK.2.1 _ (by decide) (by decide)]) ?_
            refine wr_top (y := (M 141 (sr k))) (by rw [st_r _ _ _ (by decide)]) ?_
            refine wr_top (y := (nI (rs (sr k)))) hm3 ?_
            refine lv_iadd hx hb dX6_export_150 ?_
            refine wr_top (y := (nI (2 + (rs (sr k))))) (nI_add _ _) ?_
            refine lv_icmp_ge (tgt := 176) hx hb dX6_export_151 (by decide) (fun c_151 => ?_) (fun c_151 => ?_)
            · have c_151 := (nI_leI (by omega) (by omega)).mp c_151
              refine lv_iinc (v := (nI (k + 1))) (lv' := [(2, .int (nI (k + 1))), (5, .int (nI i2)), (0, .ref (ad 137)), (1, .int x), (3, .int (nI (8 * vN x + k))), (4, .int (nI (sr k)))]) hx hb dX6_export_176 hl (k := 3) rfl (nI_1 _) (by decide) rfl (fun ls hl => ?_)
              refine lv_goto (tgt := 53) hx hb dX6_export_179 (by decide) ?_
              exact ih53 _ (k + 1, Mo) _ _ _ (by omega) ⟨rfl, ⟨by omega, by show bdM _ _ (boN (fun k => rs (sr k)) k + (4 + 2 * rs (sr k))) _; rw [show boN (fun k => rs (sr k)) k + (4 + 2 * rs (sr k)) = boN (fun k => rs (sr k)) k + 2 + rs (sr k) + i2 by omega]; exact hK.2⟩, hP, hS, (lv_sub hl [0, 2, 3] rfl)⟩
            · have c_151 := mt (nI_leI (by omega) (by omega)).mpr c_151
              refine lv_aload_n hx hb dX6_export_154 rfl (lv_at hl 1 rfl) ?_
              refine lv_aload_n hx hb dX6_export_155 rfl (lv_at hl 1 rfl) ?_
              refine va_get (D := D) (ci := 5) (v := .ref (ad 149)) (C := RX6) (T := TX6) (N := 27) hx hb hts hin_RX6 hown hE.1 hP 137 (wd_at (M := Mo) (show 137 < n by omega) ((g_137 cy ad) _)) rfl 15 (by decide) hf44 (fun _ h9 => h9) rfl dX6_export_156 ?_
              refine lv_bipush (v := (nI 8)) hx hb dX6_export_159 (by decide) ?_
              refine lv_iload_n hx hb dX6_export_161 rfl (lv_at hl 4 rfl) ?_
              refine lv_imul hx hb dX6_export_162 ?_
              refine wr_top (y := (nI (8 * (8 * vN x + k)))) (pk_mul _ _) ?_
              refine lv_iload hx hb dX6_export_163 (lv_at hl 0 rfl) ?_
              refine lv_iadd hx hb dX6_export_165 ?_
              refine wr_top (y := (nI ((8 * (8 * vN x + k)) + i2))) (nI_add _ _) ?_
              refine wr_ald (cy := cy) (ad := ad) (ex := []) hx hb hE.1 hP 149 (show 149 < n by omega) ((g_149 cy ad) _) ((8 * (8 * vN x + k)) + i2) rfl (by omega) (by decide) dX6_export_166 ?_
              refine wr_top (y := ((st M 137 0 (nI 0)) 149 ((8 * (8 * vN x + k)) + i2))) (by rw [hK.2.1 _ (by decide) (by decide)]) ?_
              refine wr_top (y := (M 149 ((8 * (8 * vN x + k)) + i2))) (by rw [st_r _ _ _ (by decide)]) ?_
              refine va_callv (va_runV (As := [.int (M 149 ((8 * (8 * vN x + k)) + i2))]) (rest := []) ⟨hx, hb, hml, hown, hts⟩ (kX6_put l (M := Mo) hD hn (b := boN (fun k => rs (sr k)) k + 2 + rs (sr k) + i2) hK.2.2.2.1 (by omega)) (cwV 1 hts gX6_export_X6_put rfl rfl rfl (by decide +kernel) ⟨Nat.le_of_ble_eq_true rfl, Nat.le_of_ble_eq_true rfl⟩) (rw_pv (ci := 5) (q := (RX6, TX6, 27)) hE hP hS hA rfl (wd_at (M := Mo) (show 137 < n by omega) ((g_137 cy ad) _))) rfl rfl hl.1 rfl (lv_room (Nat.le_of_ble_eq_true rfl)) dX6_export_167 ⟨Nat.le_of_ble_eq_true rfl, Nat.le_of_ble_eq_true rfl⟩) hS (fun q _ h => h) (fun q h => h) (fun u_167 t H1 locs ht hvm hr_167 hB_167 hz1 hk1 hS => ?_)
              have hP : va_P D vwCl (wd cy ad n u_167 ++ []) H1 := by rw [← ht]; exact hB_167
              clear hB_167 ht hvm hz1 hk1
              generalize H1 = H at hP hS ⊢
              subst hr_167
              refine lv_iinc (v := (nI (i2 + 1))) (lv' := [(5, .int (nI (i2 + 1))), (0, .ref (ad 137)), (1, .int x), (2, .int (nI k)), (3, .int (nI (8 * vN x + k))), (4, .int (nI (sr k)))]) hx hb dX6_export_170 hl (k := 0) rfl (nI_1 _) (by decide) rfl (fun ls hl => ?_)
              refine lv_goto (tgt := 140) hx hb dX6_export_173 (by decide) ?_
              exact ih140 _ (i2 + 1, (st (st Mo 151 (boN (fun k => rs (sr k)) k + 2 + rs (sr k) + i2) ((fun j => M 149 (8 * (8 * vN x + k) + j)) i2)) 137 18 (nI ((boN (fun k => rs (sr k)) k + 2 + rs (sr k) + i2) + 1)))) _ _ _ (by omega) ⟨rfl, ⟨by omega, bm_cong (bm_put hK.2) (fun j hj => pc_3 hj (by omega))⟩, hP, hS, (lv_sub hl [0, 1, 2, 3, 4, 5] rfl)⟩
          · have c_101 := mt (nI_leI (by omega) (by omega)).mpr c_101
            refine lv_aload_n hx hb dX6_export_104 rfl (lv_at hl 1 rfl) ?_
            refine lv_aload_n hx hb dX6_export_105 rfl (lv_at hl 1 rfl) ?_
            refine va_get (D := D) (ci := 5) (v := .ref (ad 142)) (C := RX6) (T := TX6) (N := 27) hx hb hts hin_RX6 hown hE.1 hP 137 (wd_at (M := Mj) (show 137 < n by omega) ((g_137 cy ad) _)) rfl 7 (by decide) hf22 (fun _ h9 => h9) rfl dX6_export_106 ?_
            refine lv_bipush (v := (nI 6)) hx hb dX6_export_109 (by decide) ?_
            refine lv_iload hx hb dX6_export_111 (lv_at hl 5 rfl) ?_
            refine lv_imul hx hb dX6_export_113 ?_
            refine wr_top (y := (nI (6 * (sr k)))) (pk_mul _ _) ?_
            refine lv_iload hx hb dX6_export_114 (lv_at hl 0 rfl) ?_
            refine lv_iadd hx hb dX6_export_116 ?_
            refine wr_top (y := (nI ((6 * (sr k)) + i))) (nI_add _ _) ?_
            refine wr_ald (cy := cy) (ad := ad) (ex := []) hx hb hE.1 hP 142 (show 142 < n by omega) ((g_142 cy ad) _) ((6 * (sr k)) + i) rfl (by omega) (by decide) dX6_export_117 ?_
            refine wr_top (y := ((st M 137 0 (nI 0)) 142 ((6 * (sr k)) + i))) (by rw [hJ.2.1 _ (by decide) (by decide)]) ?_
            refine wr_top (y := (M 142 ((6 * (sr k)) + i))) (by rw [st_r _ _ _ (by decide)]) ?_
            refine va_callv (va_runV (As := [.int (M 142 ((6 * (sr k)) + i))]) (rest := []) ⟨hx, hb, hml, hown, hts⟩ (kX6_put l (M := Mj) hD hn (b := boN (fun k => rs (sr k)) k + 1 + i) hJ.2.2.2.1 (by omega)) (cwV 1 hts gX6_export_X6_put rfl rfl rfl (by decide +kernel) ⟨Nat.le_of_ble_eq_true rfl, Nat.le_of_ble_eq_true rfl⟩) (rw_pv (ci := 5) (q := (RX6, TX6, 27)) hE hP hS hA rfl (wd_at (M := Mj) (show 137 < n by omega) ((g_137 cy ad) _))) rfl rfl hl.1 rfl (lv_room (Nat.le_of_ble_eq_true rfl)) dX6_export_118 ⟨Nat.le_of_ble_eq_true rfl, Nat.le_of_ble_eq_true rfl⟩) hS (fun q _ h => h) (fun q h => h) (fun u_118 t H1 locs ht hvm hr_118 hB_118 hz1 hk1 hS => ?_)
            have hP : va_P D vwCl (wd cy ad n u_118 ++ []) H1 := by rw [← ht]; exact hB_118
            clear hB_118 ht hvm hz1 hk1
            generalize H1 = H at hP hS ⊢
            subst hr_118
            refine lv_iinc (v := (nI (i + 1))) (lv' := [(5, .int (nI (i + 1))), (0, .ref (ad 137)), (1, .int x), (2, .int (nI k)), (3, .int (nI (8 * vN x + k))), (4, .int (nI (sr k)))]) hx hb dX6_export_121 hl (k := 0) rfl (nI_1 _) (by decide) rfl (fun ls hl => ?_)
            refine lv_goto (tgt := 92) hx hb dX6_export_124 (by decide) ?_
            exact ih92 _ (i + 1, (st (st Mj 151 (boN (fun k => rs (sr k)) k + 1 + i) ((fun j => M 142 (6 * sr k + j)) i)) 137 18 (nI ((boN (fun k => rs (sr k)) k + 1 + i) + 1)))) _ _ _ (by omega) ⟨rfl, ⟨by omega, bm_cong (bm_put hJ.2) (fun j hj => pc_1 hj (by omega))⟩, hP, hS, (lv_sub hl [0, 1, 2, 3, 4, 5] rfl)⟩
      · exact absurd c_21 (by decide)
    · exact absurd c_6 (by decide)
