/-- bit i of a choice, as the class asks for it; how many of the first i -/
def chB (x : Int32) (i : Nat) : Prop := (uS x (nI i) &&& nI 1) = nI 1
def chC (x : Int32) : Nat → Nat
  | 0 => 0
  | i + 1 => chC x i + (if (uS x (nI i) &&& nI 1) = nI 1 then 1 else 0)
theorem chC_1 {x : Int32} {i : Nat} (h : chB x i) : chC x (i + 1) = chC x i + 1 := by
  conv => lhs; unfold chC
  rw [if_pos (show (uS x (nI i) &&& nI 1) = nI 1 from h)]
theorem chC_0 {x : Int32} {i : Nat} (h : ¬ chB x i) : chC x (i + 1) = chC x i := by
  conv => lhs; unfold chC
  rw [if_neg (show ¬ (uS x (nI i) &&& nI 1) = nI 1 from h)]; rfl
theorem chC_mono (x : Int32) : ∀ {i j : Nat}, i ≤ j → chC x i ≤ chC x j := by
  intro i j h
  induction j with
  | zero => rw [show i = 0 by omega]; exact Nat.le_refl _
  | succ j ih =>
    rcases Nat.lt_or_ge i (j + 1) with q | q
    · refine Nat.le_trans (ih (by omega)) ?_
      show chC x j ≤ chC x j + _
      omega
    · rw [show i = j + 1 by omega]; exact Nat.le_refl _
theorem ch_dec : (List.range 4096).all (fun b => bcI (nI b) == nI (chC (nI b) 12)) = true := by decide +kernel
theorem ch_small {x : Int32} {mc : Nat} (hmc : mc ≤ 12) (h : uS x (nI mc) = 0) : ∃ b, b < 2 ^ mc ∧ x = nI b := by
  have e : (uS x (nI mc)).toBitVec.toNat = x.toBitVec.toNat / 2 ^ mc := pk_ushr x (nI mc) mc (s_un mc (by omega))
  rw [h] at e
  have e0 : (0 : Int32).toBitVec.toNat = 0 := rfl
  rw [e0] at e
  have hlt : x.toBitVec.toNat < 2 ^ mc := by
    rcases Nat.lt_or_ge x.toBitVec.toNat (2 ^ mc) with q | q
    · exact q
    · have := Nat.div_pos q (Nat.two_pow_pos mc); omega
  have h2 : x.toBitVec.toNat < 2 ^ 32 := x.toBitVec.isLt
  exact ⟨x.toBitVec.toNat, hlt, Int32.toBitVec_inj.mp (BitVec.eq_of_toNat_eq (by rw [pk_tn h2]))⟩
theorem ch_hi {b mc i : Nat} (hb : b < 2 ^ mc) (hi : mc ≤ i) (hi2 : i < 32) (hmc : mc ≤ 12) : ¬ chB (nI b) i := by
  unfold chB
  have hb2 : b < 2 ^ 12 := Nat.lt_of_lt_of_le hb (Nat.pow_le_pow_right (by decide) hmc)
  rw [uS_nI (by omega) hi2, Nat.div_eq_of_lt (Nat.lt_of_lt_of_le hb (Nat.pow_le_pow_right (by decide) hi))]
  decide
theorem ch_ok {x : Int32} {mc : Nat} (hmc : mc ≤ 12) (h : uS x (nI mc) = 0) : bcI x = nI (chC x mc) := by
  obtain ⟨b, hb, rfl⟩ := ch_small hmc h
  have hb2 : b < 2 ^ 12 := Nat.lt_of_lt_of_le hb (Nat.pow_le_pow_right (by decide) hmc)
  have h1 := List.all_eq_true.mp ch_dec b (List.mem_range.mpr hb2)
  simp only [beq_iff_eq] at h1
  rw [h1]
  have key : ∀ k, mc + k ≤ 12 → chC (nI b) (mc + k) = chC (nI b) mc := by
    intro k
    induction k with
    | zero => intro _; rfl
    | succ k ih =>
      intro hk
      rw [show mc + (k + 1) = (mc + k) + 1 by omega, chC_0 (ch_hi hb (by omega) (by omega) hmc)]
      exact ih (by omega)
  have := key (12 - mc) (by omega)
  rw [show mc + (12 - mc) = 12 by omega] at this
  rw [this]
theorem chC_le (x : Int32) (i : Nat) : chC x i ≤ i := by
  induction i with
  | zero => exact Nat.le_refl _
  | succ i ih =>
    show chC x i + _ ≤ i + 1
    split <;> omega
/-- what filling a ring leaves: the members chosen, in the order of their numbers -/
def flP (k : Nat) (x : Int32) (i : Nat) (M N : Mm) : Prop := (∀ a, a ≠ k → a ≠ k + 1 → N a = M a) ∧ N k 1 = nI (chC x i) ∧ (∀ b, b ≠ 1 → N k b = M k b) ∧ ∀ j, j < i → chB x j → N (k + 1) (chC x j) = M 2 j
theorem fl_0 {k : Nat} {x : Int32} {M : Mm} (h : M k 1 = nI 0) : flP k x 0 M M := ⟨fun _ _ _ => rfl, h, fun _ _ => rfl, fun j h => absurd h (Nat.not_lt_zero j)⟩
theorem fl_n {k i : Nat} {x : Int32} {M N : Mm} (h0 : ¬ chB x i) (h : flP k x i M N) : flP k x (i + 1) M N := by
  obtain ⟨h1, h2, h3, h4⟩ := h
  refine ⟨h1, by rw [chC_0 h0]; exact h2, h3, fun j hj hb => ?_⟩
  rcases Nat.lt_or_ge j i with q | q
  · exact h4 j q hb
  · rw [show j = i by omega] at hb; exact absurd hb h0
theorem fl_y {k i : Nat} {x v : Int32} {M N : Mm} (h0 : chB x i) (hv : v = M 2 i) (h : flP k x i M N) : flP k x (i + 1) M (st (st N (k + 1) (chC x i) v) k 1 (nI (chC x i + 1))) := by
  obtain ⟨h1, h2, h3, h4⟩ := h
  refine ⟨fun a a1 a2 => by rw [st_r _ _ _ a1, st_r _ _ _ a2]; exact h1 a a1 a2, by rw [st_s, chC_1 h0], fun b hb => by rw [st_c _ _ _ hb, st_r _ _ _ (show k ≠ k + 1 by omega)]; exact h3 b hb, fun j hj hb => ?_⟩
  rw [st_r _ _ _ (show k + 1 ≠ k by omega)]
  rcases Nat.lt_or_ge j i with q | q
  · have hlt : chC x j < chC x i := by
      have := chC_mono x (show j + 1 ≤ i by omega)
      rw [chC_1 hb] at this
      omega
    rw [st_c _ _ _ (show chC x j ≠ chC x i by omega)]
    exact h4 j q hb
  · rw [show j = i by omega, st_s, hv]

set_option maxHeartbeats 4000000 in
set_option maxRecDepth 100000 in
/-- isChoiceForRing -/
theorem kX5_isChoiceForRing (l : Launch) {D : va_G} {cy ad : Nat → Nat} {n : Nat} {M : Mm} (hn : 137 ≤ n) {mc : Nat} {x : Int32} (hmc : M 1 1 = nI mc) (hmc12 : mc ≤ 12) : Met l yX5_isChoiceForRing wsX5_isChoiceForRing ({ frames := 1, cells := 0, slots := 0, locals := 20 }) (va_Pc [.ref (ad 0), .int x] (RO D cy (wd cy ad n M ++ []))) (vp_Si (fun r => bP (2 ≤ (bcI x).toInt ∧ (bcI x).toInt ≤ 6 ∧ uS x (nI mc) = 0) r)) 0 0 (fun _ => False) := by
  refine Met.ofW (cc := cX5_isChoiceForRing) (maxL := 3) (ret := (some .boolean)) (by decide +kernel) rfl ?_
  intro p e s m args below meth c s₁ B hml hv
  obtain ⟨rfl, hP, hE⟩ := hv
  have hx := B.exec
  have hb := B.bytes
  have hr := B.returns
  have hts := atoms_spec (ws := wsX5_isChoiceForRing) B.pre
  have hown : s.vm.findClass RX5 = some m.cls := findClass_of_methodNamed B.named
  have hlocks := B.notSynchronized
  have hf14 : (Cond.fieldLink RX5 14 "RingPetition" "everybody" "LRingPetition$KeyRow;").before #[.ref (ad 0), .int x] s = true := hts _ (by decide +kernel)
  have hf75 : (Cond.fieldLinkNest RX5 75 "RingPetition$KeyRow" "size" "I" "RingPetition").before #[.ref (ad 0), .int x] s = true := va_Nw.use rfl (hE.2 _ (List.mem_of_getElem? (i := 3) rfl))
  have hin_RX1 : ∀ w ∈ u_ws RX1 TX1 2, w ∈ wsX5_isChoiceForRing := by decide +kernel
  have hin_RX5 : ∀ w ∈ u_ws RX5 TX5 11, w ∈ wsX5_isChoiceForRing := by decide +kernel
  have hl := lv_entry ([.ref (ad 0), .int x]) (n := 3) (Nat.le_of_ble_eq_true rfl)
  rw [lg_entry_eq]
  generalize (lg_sl ([.ref (ad 0), .int x]) ++ List.replicate (3 - (lg_sl ([.ref (ad 0), .int x])).length) Slot.unset).toArray = ls at hl ⊢
  have hl : lv_has ls 3 [(0, .ref (ad 0)), (1, .int x)] := hl
  refine lv_iload_n hx hb dX5_isChoiceForRing_0 rfl (lv_at hl 1 rfl) ?_
  refine vp_callSi (W.runS (As := [.int x]) (rest := []) ⟨hx, hb, hml, hown, hts⟩ (kJ6_bitCount_0f7a4 l) (va_cwS 1 hts gX5_isChoiceForRing_J6_bitCount_0f7a4 rfl rfl rfl (by decide +kernel) ⟨Nat.le_of_ble_eq_true rfl, Nat.le_of_ble_eq_true rfl⟩) pu_ps rfl rfl hl.1 rfl (lv_room (Nat.le_of_ble_eq_true rfl)) dX5_isChoiceForRing_1 ⟨Nat.le_of_ble_eq_true rfl, Nat.le_of_ble_eq_true rfl⟩) (fun r_1 hr_1 => ?_)
  subst hr_1
  refine lv_istore_n (lv' := [(2, .int (bcI x)), (0, .ref (ad 0)), (1, .int x)]) hx hb dX5_isChoiceForRing_4 rfl hl (by decide) rfl (fun ls hl => ?_)
  refine lv_iload_n hx hb dX5_isChoiceForRing_5 rfl (lv_at hl 0 rfl) ?_
  refine lv_iconst (v := (nI 2)) hx hb dX5_isChoiceForRing_6 (by decide) ?_
  refine lv_icmp_lt (tgt := 32) hx hb dX5_isChoiceForRing_7 (by decide) (fun c_7 => ?_) (fun c_7 => ?_)
  · have c_7 := (o_gt (by omega) _).mp c_7
    refine lv_iconst (v := (nI 0)) hx hb dX5_isChoiceForRing_32 (by decide) ?_
    exact W.zret (v := (nI 0)) hx hb hr rfl (fun t ht hW => ⟨(nI 0), rfl, (bP_0 (fun h => by have := h.1; have := h.2.1; omega)), ht⟩) (fun q h => nomatch h) dX5_isChoiceForRing_33
  · have c_7 := mt (o_gt (by omega) _).mpr c_7
    refine lv_iload_n hx hb dX5_isChoiceForRing_10 rfl (lv_at hl 0 rfl) ?_
    refine lv_bipush (v := (nI 6)) hx hb dX5_isChoiceForRing_11 (by decide) ?_
    refine lv_icmp_gt (tgt := 32) hx hb dX5_isChoiceForRing_13 (by decide) (fun c_13 => ?_) (fun c_13 => ?_)
    · have c_13 := (o_lt (by omega) _).mp c_13
      refine lv_iconst (v := (nI 0)) hx hb dX5_isChoiceForRing_32 (by decide) ?_
      exact W.zret (v := (nI 0)) hx hb hr rfl (fun t ht hW => ⟨(nI 0), rfl, (bP_0 (fun h => by have := h.1; have := h.2.1; omega)), ht⟩) (fun q h => nomatch h) dX5_isChoiceForRing_33
    · have c_13 := mt (o_lt (by omega) _).mpr c_13
      refine lv_iload_n hx hb dX5_isChoiceForRing_16 rfl (lv_at hl 2 rfl) ?_
      refine lv_aload_n hx hb dX5_isChoiceForRing_17 rfl (lv_at hl 1 rfl) ?_
      refine va_get (D := D) (ci := 4) (v := .ref (ad 1)) (C := RX5) (T := TX5) (N := 11) hx hb hts hin_RX5 hown hE.1 hP 0 (wd_at (M := M) (show 0 < n by omega) ((g_0 cy ad) _)) rfl 0 (by decide) hf14 (fun _ h9 => h9) rfl dX5_isChoiceForRing_18 ?_
      refine va_getN (D := D) (ci := 1) (v := .int (M 1 1)) (C := RX1) (T := TX1) (N := 2) hx hb hts hin_RX1 hown hE.1 hP 1 (wd_at (M := M) (show 1 < n by omega) ((kr_1 cy ad).1 _)) rfl 1 (by decide) hf75 (fun _ h9 => h9) rfl dX5_isChoiceForRing_21 ?_
      refine wr_top (y := (nI mc)) hmc ?_
      refine lv_iushr (v := uS x (nI mc)) hx hb dX5_isChoiceForRing_24 rfl ?_
      refine lv_if_ne (tgt := 32) hx hb dX5_isChoiceForRing_25 (by decide) (fun c_25 => ?_) (fun c_25 => ?_)
      · refine lv_iconst (v := (nI 0)) hx hb dX5_isChoiceForRing_32 (by decide) ?_
        exact W.zret (v := (nI 0)) hx hb hr rfl (fun t ht hW => ⟨(nI 0), rfl, (bP_0 (fun h => c_25 h.2.2)), ht⟩) (fun q h => nomatch h) dX5_isChoiceForRing_33
      · refine lv_iconst (v := (nI 1)) hx hb dX5_isChoiceForRing_28 (by decide) ?_
        refine lv_goto (tgt := 33) hx hb dX5_isChoiceForRing_29 (by decide) ?_
        exact W.zret (v := (nI 1)) hx hb hr rfl (fun t ht hW => ⟨(nI 1), rfl, (bP_1 ⟨by omega, by omega, c_25⟩), ht⟩) (fun q h => nomatch h) dX5_isChoiceForRing_33

set_option maxHeartbeats 4000000 in
set_option maxRecDepth 100000 in
/-- fillRing -/
theorem kX5_fillRing (l : Launch) {D : va_G} {cy ad : Nat → Nat} {n : Nat} {M : Mm} {A : Nat → Prop} (hD : ∀ M, va_D A (wd cy ad n M ++ [])) (hn : 137 ≤ n) {k mc : Nat} {x : Int32} (hkr : isKR cy ad k 6) (hk : k < n) (hk1 : k + 1 < n) (hk2 : 3 ≤ k) (hz : M k 1 = nI 0) (hmc : M 1 1 = nI mc) (hmc12 : mc ≤ 12) (hch : chC x mc ≤ 6) : Met l yX5_fillRing wsX5_fillRing ({ frames := 1, cells := 0, slots := 0, locals := 21 }) (va_Pc [.ref (ad 0), .ref (ad k), .int x] (RW D cy (wd cy ad n M ++ []) A)) (va_Qv (S := Mm) (fun u => flP k x mc M u) (fun u t => va_P D vwCl (wd cy ad n u ++ []) t.heap) A) 0 0 A := by
  refine Met.ofW (cc := cX5_fillRing) (maxL := 4) (ret := none) (by decide +kernel) rfl ?_
  intro p e s m args below meth c s₁ B hml hv
  obtain ⟨rfl, hP, hE, hA⟩ := hv
  have hx := B.exec
  have hb := B.bytes
  have hr := B.returns
  have hts := atoms_spec (ws := wsX5_fillRing) B.pre
  have hown : s.vm.findClass RX5 = some m.cls := findClass_of_methodNamed B.named
  have hlocks := B.notSynchronized
  have hf124 : (Cond.fieldLinkNest RX5 124 "RingPetition$KeyRow" "keys" "[I" "RingPetition").before #[.ref (ad 0), .ref (ad k), .int x] s = true := va_Nw.use rfl (hE.2 _ (List.mem_of_getElem? (i := 1) rfl))
  have hf14 : (Cond.fieldLink RX5 14 "RingPetition" "everybody" "LRingPetition$KeyRow;").before #[.ref (ad 0), .ref (ad k), .int x] s = true := hts _ (by decide +kernel)
  have hf75 : (Cond.fieldLinkNest RX5 75 "RingPetition$KeyRow" "size" "I" "RingPetition").before #[.ref (ad 0), .ref (ad k), .int x] s = true := va_Nw.use rfl (hE.2 _ (List.mem_of_getElem? (i := 3) rfl))
  have hin_RX1 : ∀ w ∈ u_ws RX1 TX1 2, w ∈ wsX5_fillRing := by decide +kernel
  have hin_RX5 : ∀ w ∈ u_ws RX5 TX5 11, w ∈ wsX5_fillRing := by decide +kernel
  have hS : va_S A s.heap s.heap [] := va_S.rf
  have hl := lv_entry ([.ref (ad 0), .ref (ad k), .int x]) (n := 4) (Nat.le_of_ble_eq_true rfl)
  rw [lg_entry_eq]
  generalize (lg_sl ([.ref (ad 0), .ref (ad k), .int x]) ++ List.replicate (4 - (lg_sl ([.ref (ad 0), .ref (ad k), .int x])).length) Slot.unset).toArray = ls at hl ⊢
  have hl : lv_has ls 4 [(0, .ref (ad 0)), (1, .ref (ad k)), (2, .int x)] := hl
  refine lv_iconst (v := (nI 0)) hx hb dX5_fillRing_0 (by decide) ?_
  refine lv_istore_n (lv' := [(3, .int (nI 0)), (0, .ref (ad 0)), (1, .ref (ad k)), (2, .int x)]) hx hb dX5_fillRing_1 rfl hl (by decide) rfl (fun ls hl => ?_)
  refine wloopW (fun kq (xq : Nat × Mm) H locs ls => match xq with | (i, Mk) => kq = mc - i ∧ (i ≤ mc ∧ flP k x i M Mk) ∧ va_P D vwCl (wd cy ad n Mk ++ []) H ∧ va_S A s.heap H locs ∧ lv_has ls 4 [(3, .int (nI i)), (0, .ref (ad 0)), (1, .ref (ad k)), (2, .int x)]) (fun k2 x2 H locs ls h2 ih2 => ?_) _ (0, M) _ _ ls ⟨rfl, ⟨Nat.zero_le _, fl_0 hz⟩, hP, hS, lv_sub hl [0, 1, 2, 3] rfl⟩
  obtain ⟨i, Mk⟩ := x2
  obtain ⟨hk2, hI, hP, hS, hl⟩ := h2
  refine lv_iload_n hx hb dX5_fillRing_2 rfl (lv_at hl 0 rfl) ?_
  refine lv_aload_n hx hb dX5_fillRing_3 rfl (lv_at hl 1 rfl) ?_
  refine va_get (D := D) (ci := 4) (v := .ref (ad 1)) (C := RX5) (T := TX5) (N := 11) hx hb hts hin_RX5 hown hE.1 hP 0 (wd_at (M := Mk) (show 0 < n by omega) ((g_0 cy ad) _)) rfl 0 (by decide) hf14 (fun _ h9 => h9) rfl dX5_fillRing_4 ?_
  refine va_getN (D := D) (ci := 1) (v := .int (Mk 1 1)) (C := RX1) (T := TX1) (N := 2) hx hb hts hin_RX1 hown hE.1 hP 1 (wd_at (M := Mk) (show 1 < n by omega) ((kr_1 cy ad).1 _)) rfl 1 (by decide) hf75 (fun _ h9 => h9) rfl dX5_fillRing_7 ?_
  refine wr_top (y := (nI mc)) (by rw [hI.2.1 1 (by omega) (by omega)]; exact hmc) ?_
  refine lv_icmp_ge (tgt := 41) hx hb dX5_fillRing_10 (by decide) (fun c_10 => ?_) (fun c_10 => ?_)
  · have c_10 := (nI_leI (by omega) (by omega)).mp c_10
    exact W.vret hx hb hr (fun t ht hW => ⟨⟨Mk, rfl, by rw [show mc = i by omega]; exact hI.2, (by show va_P D vwCl _ t.heap; rw [ht]; exact hP)⟩, hS.F ht⟩) hS.2.2 dX5_fillRing_41
  · have c_10 := mt (nI_leI (by omega) (by omega)).mpr c_10
    refine lv_iload_n hx hb dX5_fillRing_13 rfl (lv_at hl 3 rfl) ?_
    refine lv_iload_n hx hb dX5_fillRing_14 rfl (lv_at hl 0 rfl) ?_
    refine lv_iushr (v := uS x (nI i)) hx hb dX5_fillRing_15 rfl ?_
    refine lv_iconst (v := (nI 1)) hx hb dX5_fillRing_16 (by decide) ?_
    refine lv_iand hx hb dX5_fillRing_17 ?_
    refine lv_iconst (v := (nI 1)) hx hb dX5_fillRing_18 (by decide) ?_
    refine lv_icmp_ne (tgt := 35) hx hb dX5_fillRing_19 (by decide) (fun c_19 => ?_) (fun c_19 => ?_)
    · refine lv_iinc (v := (nI (i + 1))) (lv' := [(3, .int (nI (i + 1))), (0, .ref (ad 0)), (1, .ref (ad k)), (2, .int x)]) hx hb dX5_fillRing_35 hl (k := 0) rfl (nI_1 _) (by decide) rfl (fun ls hl => ?_)
      refine lv_goto (tgt := 2) hx hb dX5_fillRing_38 (by decide) ?_
      exact ih2 _ (i + 1, Mk) _ _ _ (by omega) ⟨rfl, ⟨by omega, fl_n c_19 hI.2⟩, hP, hS, (lv_sub hl [0, 1, 2, 3] rfl)⟩
    · refine lv_aload_n hx hb dX5_fillRing_22 rfl (lv_at hl 2 rfl) ?_
      refine lv_aload_n hx hb dX5_fillRing_23 rfl (lv_at hl 1 rfl) ?_
      refine va_get (D := D) (ci := 4) (v := .ref (ad 1)) (C := RX5) (T := TX5) (N := 11) hx hb hts hin_RX5 hown hE.1 hP 0 (wd_at (M := Mk) (show 0 < n by omega) ((g_0 cy ad) _)) rfl 0 (by decide) hf14 (fun _ h9 => h9) rfl dX5_fillRing_24 ?_
      refine va_getN (D := D) (ci := 1) (v := .ref (ad (1 + 1))) (C := RX1) (T := TX1) (N := 2) hx hb hts hin_RX1 hown hE.1 hP 1 (wd_at (M := Mk) (show 1 < n by omega) ((kr_1 cy ad).1 _)) rfl 0 (by decide) hf124 (fun _ h9 => h9) rfl dX5_fillRing_27 ?_
      refine lv_iload_n hx hb dX5_fillRing_30 rfl (lv_at hl 0 rfl) ?_
      refine wr_ald (cy := cy) (ad := ad) (ex := []) hx hb hE.1 hP (1 + 1) (show 1 + 1 < n by omega) ((kr_1 cy ad).2 _) i rfl (by omega) (by decide) dX5_fillRing_31 ?_
      have hle := chC_mono x (show i + 1 ≤ mc by omega)
      rw [chC_1 (show chB x i from c_19)] at hle
      refine va_callv (va_runV (As := [.int (Mk (1 + 1) i)]) (rest := []) ⟨hx, hb, hml, hown, hts⟩ (kX1_add l hD hkr hk hk1 hI.2.2.1 (by decide) (by omega)) (cwV 1 hts gX5_fillRing_X1_add rfl rfl rfl (by decide +kernel) ⟨Nat.le_of_ble_eq_true rfl, Nat.le_of_ble_eq_true rfl⟩) (rw_pv (ci := 1) (q := (RX1, TX1, 2)) hE hP hS hA rfl (wd_at (M := Mk) hk (hkr.1 _))) rfl rfl hl.1 rfl (lv_room (Nat.le_of_ble_eq_true rfl)) dX5_fillRing_32 ⟨Nat.le_of_ble_eq_true rfl, Nat.le_of_ble_eq_true rfl⟩) hS (fun q _ h => h) (fun q h => h) (fun u_32 t H1 locs ht hvm hr_32 hB_32 hz1 hk1 hS => ?_)
      have hP : va_P D vwCl (wd cy ad n u_32 ++ []) H1 := by rw [← ht]; exact hB_32
      clear hB_32 ht hvm hz1 hk1
      generalize H1 = H at hP hS ⊢
      subst hr_32
      refine lv_iinc (v := (nI (i + 1))) (lv' := [(3, .int (nI (i + 1))), (0, .ref (ad 0)), (1, .ref (ad k)), (2, .int x)]) hx hb dX5_fillRing_35 hl (k := 0) rfl (nI_1 _) (by decide) rfl (fun ls hl => ?_)
      refine lv_goto (tgt := 2) hx hb dX5_fillRing_38 (by decide) ?_
      exact ih2 _ (i + 1, (st (st Mk (k + 1) (chC x i) (Mk (1 + 1) i)) k 1 (nI (chC x i + 1)))) _ _ _ (by omega) ⟨rfl, ⟨by omega, fl_y c_19 (by rw [hI.2.1 (1 + 1) (by omega) (by omega)]) hI.2⟩, hP, hS, (lv_sub hl [0, 1, 2, 3] rfl)⟩

set_option maxHeartbeats 4000000 in
set_option maxRecDepth 100000 in
/-- ring -/
theorem kX5_ring (l : Launch) (hlt : l.stackTraces = false) {D : va_G} {cy ad : Nat → Nat} {n : Nat} {M : Mm} {A : Nat → Prop} (hD : ∀ M, va_D A (wd cy ad n M ++ [])) (hn : 137 ≤ n) {mc rc : Nat} {x : Int32} (hmc : M 1 1 = nI mc) (hmc12 : mc ≤ 12) (hrc : M 0 2 = nI rc) (hrc8 : rc ≤ 8) (hemp : ∀ r, rc ≤ r → r < 8 → M (13 + 2 * r) 1 = nI 0) : vx_Met l yX5_ring wsX5_ring ({ frames := 6, cells := 1, slots := 6, locals := 86 }) (va_Pc [.ref (ad 0), .int x] (TW D cy (wd cy ad n M ++ []) A)) (va_Qi (S := Mm) (fun r u => r = nI rc ∧ rc < 8 ∧ (2 ≤ (bcI x).toInt ∧ (bcI x).toInt ≤ 6 ∧ uS x (nI mc) = 0) ∧ ∃ N, flP (13 + 2 * rc) x mc M N ∧ u = st N 0 2 (nI (rc + 1))) (fun u t => va_P D vwCl (wd cy ad n u ++ []) t.heap) A) (vx_X (S := Mm) (fun _ => True) (fun E u t => (((E = "java/lang/IllegalArgumentException" ∧ ¬ (2 ≤ (bcI x).toInt ∧ (bcI x).toInt ≤ 6 ∧ uS x (nI mc) = 0)) ∨ (E = "java/lang/IllegalStateException" ∧ (2 ≤ (bcI x).toInt ∧ (bcI x).toInt ≤ 6 ∧ uS x (nI mc) = 0) ∧ rc = 8)) ∧ u = M) ∧ va_P D vwCl (wd cy ad n u ++ []) t.heap) A) 1 6 A := by
  refine vx_ofW (cc := cX5_ring) (maxL := 2) (ret := (some .int)) (by decide) rfl ?_
  intro p e s m args below meth c s₁ B hml htab hv
  obtain ⟨rfl, hP, hE, hA, hX⟩ := hv
  have hx := B.exec
  have hb := B.bytes
  have hr := B.returns
  have hts := atoms_spec (ws := wsX5_ring) B.pre
  have hown : s.vm.findClass RX5 = some m.cls := findClass_of_methodNamed B.named
  have hlocks := B.notSynchronized
  have hf18 : (Cond.fieldLink RX5 18 "RingPetition" "rings" "[LRingPetition$KeyRow;").before #[.ref (ad 0), .int x] s = true := hts _ (by decide +kernel)
  have hf22 : (Cond.fieldLink RX5 22 "RingPetition" "ringCount" "I").before #[.ref (ad 0), .int x] s = true := hts _ (by decide +kernel)
  have hin_RX5 : ∀ w ∈ u_ws RX5 TX5 11, w ∈ wsX5_ring := by decide +kernel
  have hS : va_S A s.heap s.heap [] := va_S.rf
  have hl := lv_entry ([.ref (ad 0), .int x]) (n := 2) (Nat.le_of_ble_eq_true rfl)
  rw [lg_entry_eq]
  generalize (lg_sl ([.ref (ad 0), .int x]) ++ List.replicate (2 - (lg_sl ([.ref (ad 0), .int x])).length) Slot.unset).toArray = ls at hl ⊢
  have hl : lv_has ls 2 [(0, .ref (ad 0)), (1, .int x)] := hl
  refine lv_aload_n hx hb dX5_ring_0 rfl (lv_at hl 0 rfl) ?_
  refine lv_iload_n hx hb dX5_ring_1 rfl (lv_at hl 1 rfl) ?_
  refine vp_callSi (W.runV (As := [.int x]) (rest := []) ⟨hx, hb, hml, hown, hts⟩ (kX5_isChoiceForRing l hn hmc hmc12) (cwV 1 hts gX5_ring_X5_isChoiceForRing rfl rfl rfl (by decide +kernel) ⟨Nat.le_of_ble_eq_true rfl, Nat.le_of_ble_eq_true rfl⟩) (ro_pv (ci := 4) (q := (RX5, TX5, 11)) hE hP rfl (wd_at (M := M) (show 0 < n by omega) ((g_0 cy ad) _))) rfl rfl hl.1 rfl (lv_room (Nat.le_of_ble_eq_true rfl)) dX5_ring_2 ⟨Nat.le_of_ble_eq_true rfl, Nat.le_of_ble_eq_true rfl⟩) (fun r_2 hr_2 => ?_)
  rcases hr_2 with ⟨hq_2, rfl⟩ | ⟨hq_2, rfl⟩
  · refine lv_if_ne (tgt := 18) hx hb dX5_ring_5 (by decide) (fun c_5 => ?_) (fun c_5 => ?_)
    · have c_5 := mt (o_eq0 _).mpr c_5
      refine lv_aload_n hx hb dX5_ring_18 rfl (lv_at hl 0 rfl) ?_
      refine va_get (D := D) (ci := 4) (v := .int (M 0 2)) (C := RX5) (T := TX5) (N := 11) hx hb hts hin_RX5 hown hE.1 hP 0 (wd_at (M := M) (show 0 < n by omega) ((g_0 cy ad) _)) rfl 2 (by decide) hf22 (fun _ h9 => h9) rfl dX5_ring_19 ?_
      refine wr_top (y := (nI rc)) hrc ?_
      refine lv_bipush (v := (nI 8)) hx hb dX5_ring_22 (by decide) ?_
      refine lv_icmp_lt (tgt := 37) hx hb dX5_ring_24 (by decide) (fun c_24 => ?_) (fun c_24 => ?_)
      · have c_24 := (nI_ltI (by omega) (by omega)).mp c_24
        refine lv_aload_n hx hb dX5_ring_37 rfl (lv_at hl 0 rfl) ?_
        refine lv_aload_n hx hb dX5_ring_38 rfl (lv_at hl 0 rfl) ?_
        refine va_get (D := D) (ci := 4) (v := .ref (ad 3)) (C := RX5) (T := TX5) (N := 11) hx hb hts hin_RX5 hown hE.1 hP 0 (wd_at (M := M) (show 0 < n by omega) ((g_0 cy ad) _)) rfl 1 (by decide) hf18 (fun _ h9 => h9) rfl dX5_ring_39 ?_
        refine lv_aload_n hx hb dX5_ring_42 rfl (lv_at hl 0 rfl) ?_
        refine va_get (D := D) (ci := 4) (v := .int (M 0 2)) (C := RX5) (T := TX5) (N := 11) hx hb hts hin_RX5 hown hE.1 hP 0 (wd_at (M := M) (show 0 < n by omega) ((g_0 cy ad) _)) rfl 2 (by decide) hf22 (fun _ h9 => h9) rfl dX5_ring_43 ?_
        refine wr_top (y := (nI rc)) hrc ?_
        refine wr_aldq (cy := cy) (ad := ad) (ex := []) hx hb hE.1 hP 3 (show 3 < n by omega) 3 ((g_3 cy ad) _) rfl rc rfl (by omega) (by decide) dX5_ring_46 ?_
        refine lv_iload_n hx hb dX5_ring_47 rfl (lv_at hl 1 rfl) ?_
        have hok := ch_ok hmc12 hq_2.2.2
        have hc6 : chC x mc ≤ 6 := by
          have h1 := hq_2.2.1
          rw [hok, nI_toInt (Nat.lt_of_le_of_lt (chC_le x mc) (by omega))] at h1
          omega
        refine va_callv (va_runV (As := [.ref (ad (13 + 2 * rc)), .int x]) (rest := []) ⟨hx, hb, hml, hown, hts⟩ (kX5_fillRing l hD hn (k := 13 + 2 * rc) (kr_r cy ad (show rc < 8 by omega)) (by omega) (by omega) (by omega) (hemp rc (by omega) (by omega)) hmc hmc12 hc6) (cwV 2 hts gX5_ring_X5_fillRing rfl rfl rfl (by decide +kernel) ⟨Nat.le_of_ble_eq_true rfl, Nat.le_of_ble_eq_true rfl⟩) (rw_pv (ci := 4) (q := (RX5, TX5, 11)) hE hP hS hA rfl (wd_at (M := M) (show 0 < n by omega) ((g_0 cy ad) _))) rfl rfl hl.1 rfl (lv_room (Nat.le_of_ble_eq_true rfl)) dX5_ring_48 ⟨Nat.le_of_ble_eq_true rfl, Nat.le_of_ble_eq_true rfl⟩) hS (fun q _ h => h) (fun q h => h) (fun u_48 t H1 locs ht hvm hr_48 hB_48 hz1 hk1 hS => ?_)
        have hP : va_P D vwCl (wd cy ad n u_48 ++ []) H1 := by rw [← ht]; exact hB_48
        clear hB_48 ht hvm hz1 hk1
        generalize H1 = H at hP hS ⊢
        refine lv_aload_n hx hb dX5_ring_51 rfl (lv_at hl 0 rfl) ?_
        refine lv_dup hx hb dX5_ring_52 rfl ?_
        refine va_get (D := D) (ci := 4) (v := .int (u_48 0 2)) (C := RX5) (T := TX5) (N := 11) hx hb hts hin_RX5 hown hE.1 hP 0 (wd_at (M := u_48) (show 0 < n by omega) ((g_0 cy ad) _)) rfl 2 (by decide) hf22 (fun _ h9 => h9) rfl dX5_ring_53 ?_
        refine wr_top (y := (nI rc)) (by rw [hr_48.1 0 (by omega) (by omega)]; exact hrc) ?_
        refine lv_iconst (v := (nI 1)) hx hb dX5_ring_56 (by decide) ?_
        refine lv_iadd hx hb dX5_ring_57 ?_
        refine wr_top (y := (nI (rc + 1))) (nI_add _ _) ?_
        refine wr_put (cy := cy) (ad := ad) (ex := []) (ci := 4) (C := RX5) (T := TX5) (N := 11) (ty := .int) hx hb hts hin_RX5 tyX5 tyX5_ok nmX5 hown hE.1 hP hD hS 0 (show 0 < n by omega) ((g_0 cy ad) _) rfl 2 (by decide) hf22 (fun _ h9 => h9) rfl (by decide +kernel) rfl rfl (by simp) (((g_0 cy ad) _).trans (by simp [st_at])) dX5_ring_58 (fun H locs hP hS => ?_)
        refine lv_aload_n hx hb dX5_ring_61 rfl (lv_at hl 0 rfl) ?_
        refine va_get (D := D) (ci := 4) (v := .int ((st u_48 0 2 (nI (rc + 1))) 0 2)) (C := RX5) (T := TX5) (N := 11) hx hb hts hin_RX5 hown hE.1 hP 0 (wd_at (M := (st u_48 0 2 (nI (rc + 1)))) (show 0 < n by omega) ((g_0 cy ad) _)) rfl 2 (by decide) hf22 (fun _ h9 => h9) rfl dX5_ring_62 ?_
        refine wr_top (y := (nI (rc + 1))) (st_s _ _ _ _) ?_
        refine lv_iconst (v := (nI 1)) hx hb dX5_ring_65 (by decide) ?_
        refine lv_isub hx hb dX5_ring_66 ?_
        refine wr_top (y := (nI rc)) (nI_pred rc) ?_
        refine vx_ret ?_
        refine W.widen (k := 1) (n := 6) (Nat.le_of_ble_eq_true rfl) (Nat.le_of_ble_eq_true rfl) ?_
        exact W.iret (v := (nI rc)) hx hb hr (fun t ht hW => ⟨⟨(nI rc), (st u_48 0 2 (nI (rc + 1))), rfl, ⟨rfl, by omega, hq_2, u_48, hr_48, rfl⟩, (by show va_P D vwCl _ t.heap; rw [ht]; exact hP)⟩, hS.F ht⟩) hS.2.2 dX5_ring_67
      · have c_24 := mt (nI_ltI (by omega) (by omega)).mpr c_24
        obtain ⟨sa, hstr⟩ := hX.2.2.1 (100, "there are 8 rings") (List.mem_of_getElem? (i := 4) rfl)
        exact vx_throwS (text := "there are 8 rings") (names := exN) (ik := 78) (is := 100) (ic := 82) (A := A) hx hb hlt hown ex_c78 ex_n (hts (.classLink RX5 78 "java/lang/IllegalStateException") (by decide +kernel)) (hts (.initialized "java/lang/IllegalStateException") (by decide +kernel)) hstr (vx_hat (fun w h => hts w (List.mem_cons_of_mem _ (List.mem_append_right _ h))) ex_b78 (ex_u hX (List.mem_of_getElem? (i := 1) rfl))) ex_g78 hX.1 hX.2.1 hS (hl.1.trans hml.symm) dX5_ring_27 dX5_ring_30 dX5_ring_31 dX5_ring_33 dX5_ring_36 (fun x h => (htab x h).elim) (Nat.le_of_ble_eq_true rfl) (Nat.le_of_ble_eq_true rfl) (Nat.le_of_ble_eq_true rfl) (Nat.le_of_ble_eq_true rfl) hlocks (fun t h1 h2 h3 => ⟨M, trivial, ⟨⟨Or.inr ⟨rfl, hq_2, by omega⟩, rfl⟩, va_keep hP h3⟩, vx_fin hS h2 h3⟩) hS.2.2 (Nat.le_of_ble_eq_true rfl) (Nat.le_of_ble_eq_true rfl)
    · exact absurd c_5 (by decide)
  · refine lv_if_ne (tgt := 18) hx hb dX5_ring_5 (by decide) (fun c_5 => ?_) (fun c_5 => ?_)
    · exact absurd c_5 (by decide)
    · have c_5 := (o_eq0 _).mp c_5
      obtain ⟨sa, hstr⟩ := hX.2.2.1 (98, "not 2 to 6 members") (List.mem_of_getElem? (i := 3) rfl)
      exact vx_throwS (text := "not 2 to 6 members") (names := exN) (ik := 68) (is := 98) (ic := 72) (A := A) hx hb hlt hown ex_c68 ex_n (hts (.classLink RX5 68 "java/lang/IllegalArgumentException") (by decide +kernel)) (hts (.initialized "java/lang/IllegalArgumentException") (by decide +kernel)) hstr (vx_hat (fun w h => hts w (List.mem_cons_of_mem _ (List.mem_append_left _ (List.mem_append_right _ h)))) ex_b68 (ex_u hX (List.mem_of_getElem? (i := 0) rfl))) ex_g68 hX.1 hX.2.1 hS (hl.1.trans hml.symm) dX5_ring_8 dX5_ring_11 dX5_ring_12 dX5_ring_14 dX5_ring_17 (fun x h => (htab x h).elim) (Nat.le_of_ble_eq_true rfl) (Nat.le_of_ble_eq_true rfl) (Nat.le_of_ble_eq_true rfl) (Nat.le_of_ble_eq_true rfl) hlocks (fun t h1 h2 h3 => ⟨M, trivial, ⟨⟨Or.inl ⟨rfl, hq_2⟩, rfl⟩, va_keep hP h3⟩, vx_fin hS h2 h3⟩) hS.2.2 (Nat.le_of_ble_eq_true rfl) (Nat.le_of_ble_eq_true rfl)

set_option maxHeartbeats 4000000 in
set_option maxRecDepth 100000 in
/-- topic -/
theorem kX5_topic (l : Launch) (hlt : l.stackTraces = false) {D : va_G} {cy ad : Nat → Nat} {n : Nat} {M : Mm} {A : Nat → Prop} (hD : ∀ M, va_D A (wd cy ad n M ++ [])) (hn : 137 ≤ n) {tc : Nat} {v : Int32} (htc : M 0 4 = nI tc) (htc6 : tc ≤ 6) : vx_Met l yX5_topic wsX5_topic ({ frames := 6, cells := 1, slots := 6, locals := 88 }) (va_Pc [.ref (ad 0), .int v] (TW D cy (wd cy ad n M ++ []) A)) (va_Qi (S := Mm) (fun r u => r = nI tc ∧ tc < 6 ∧ u = st (st (st M (29 + 18 * tc) 0 v) (29 + 18 * tc) 1 (nI (tB v))) 0 4 (nI (tc + 1))) (fun u t => va_P D vwCl (wd cy ad n u ++ []) t.heap) A) (vx_X (S := Mm) (fun _ => True) (fun E u t => (E = "java/lang/IllegalStateException" ∧ tc = 6 ∧ u = M) ∧ va_P D vwCl (wd cy ad n u ++ []) t.heap) A) 1 6 A := by
  refine vx_ofW (cc := cX5_topic) (maxL := 2) (ret := (some .int)) (by decide) rfl ?_
  intro p e s m args below meth c s₁ B hml htab hv
  obtain ⟨rfl, hP, hE, hA, hX⟩ := hv
  have hx := B.exec
  have hb := B.bytes
  have hr := B.returns
  have hts := atoms_spec (ws := wsX5_topic) B.pre
  have hown : s.vm.findClass RX5 = some m.cls := findClass_of_methodNamed B.named
  have hlocks := B.notSynchronized
  have hf28 : (Cond.fieldLink RX5 28 "RingPetition" "topics" "[LRingPetition$Topic;").before #[.ref (ad 0), .int v] s = true := hts _ (by decide +kernel)
  have hf32 : (Cond.fieldLink RX5 32 "RingPetition" "topicCount" "I").before #[.ref (ad 0), .int v] s = true := hts _ (by decide +kernel)
  have hin_RX5 : ∀ w ∈ u_ws RX5 TX5 11, w ∈ wsX5_topic := by decide +kernel
  have hS : va_S A s.heap s.heap [] := va_S.rf
  have hl := lv_entry ([.ref (ad 0), .int v]) (n := 2) (Nat.le_of_ble_eq_true rfl)
  rw [lg_entry_eq]
  generalize (lg_sl ([.ref (ad 0), .int v]) ++ List.replicate (2 - (lg_sl ([.ref (ad 0), .int v])).length) Slot.unset).toArray = ls at hl ⊢
  have hl : lv_has ls 2 [(0, .ref (ad 0)), (1, .int v)] := hl
  refine lv_aload_n hx hb dX5_topic_0 rfl (lv_at hl 0 rfl) ?_
  refine va_get (D := D) (ci := 4) (v := .int (M 0 4)) (C := RX5) (T := TX5) (N := 11) hx hb hts hin_RX5 hown hE.1 hP 0 (wd_at (M := M) (show 0 < n by omega) ((g_0 cy ad) _)) rfl 4 (by decide) hf32 (fun _ h9 => h9) rfl dX5_topic_1 ?_
  refine wr_top (y := (nI tc)) htc ?_
  refine lv_bipush (v := (nI 6)) hx hb dX5_topic_4 (by decide) ?_
  refine lv_icmp_lt (tgt := 19) hx hb dX5_topic_6 (by decide) (fun c_6 => ?_) (fun c_6 => ?_)
  · have c_6 := (nI_ltI (by omega) (by omega)).mp c_6
    refine lv_aload_n hx hb dX5_topic_19 rfl (lv_at hl 0 rfl) ?_
    refine va_get (D := D) (ci := 4) (v := .ref (ad 4)) (C := RX5) (T := TX5) (N := 11) hx hb hts hin_RX5 hown hE.1 hP 0 (wd_at (M := M) (show 0 < n by omega) ((g_0 cy ad) _)) rfl 3 (by decide) hf28 (fun _ h9 => h9) rfl dX5_topic_20 ?_
    refine lv_aload_n hx hb dX5_topic_23 rfl (lv_at hl 0 rfl) ?_
    refine va_get (D := D) (ci := 4) (v := .int (M 0 4)) (C := RX5) (T := TX5) (N := 11) hx hb hts hin_RX5 hown hE.1 hP 0 (wd_at (M := M) (show 0 < n by omega) ((g_0 cy ad) _)) rfl 4 (by decide) hf32 (fun _ h9 => h9) rfl dX5_topic_24 ?_
    refine wr_top (y := (nI tc)) htc ?_
    refine wr_aldq (cy := cy) (ad := ad) (ex := []) hx hb hE.1 hP 4 (show 4 < n by omega) 5 ((g_4 cy ad) _) rfl tc rfl (by omega) (by decide) dX5_topic_27 ?_
    refine lv_iload_n hx hb dX5_topic_28 rfl (lv_at hl 1 rfl) ?_
    refine va_callv (va_runV (As := [.int v]) (rest := []) ⟨hx, hb, hml, hown, hts⟩ (kX4_open l hD (k := 29 + 18 * tc) (tp_t cy ad (show tc < 6 by omega)) (by omega)) (cwV 1 hts gX5_topic_X4_open rfl rfl rfl (by decide +kernel) ⟨Nat.le_of_ble_eq_true rfl, Nat.le_of_ble_eq_true rfl⟩) (rw_pv (ci := 3) (q := (RX4, TX4, 5)) hE hP hS hA rfl (wd_at (M := M) (show 29 + 18 * tc < n by omega) ((tp_t cy ad (show tc < 6 by omega)).1 _))) rfl rfl hl.1 rfl (lv_room (Nat.le_of_ble_eq_true rfl)) dX5_topic_29 ⟨Nat.le_of_ble_eq_true rfl, Nat.le_of_ble_eq_true rfl⟩) hS (fun q _ h => h) (fun q h => h) (fun u_29 t H1 locs ht hvm hr_29 hB_29 hz1 hk1 hS => ?_)
    have hP : va_P D vwCl (wd cy ad n u_29 ++ []) H1 := by rw [← ht]; exact hB_29
    clear hB_29 ht hvm hz1 hk1
    generalize H1 = H at hP hS ⊢
    subst hr_29
    refine lv_aload_n hx hb dX5_topic_32 rfl (lv_at hl 0 rfl) ?_
    refine lv_dup hx hb dX5_topic_33 rfl ?_
    refine va_get (D := D) (ci := 4) (v := .int ((st (st M (29 + 18 * tc) 0 v) (29 + 18 * tc) 1 (nI (tB v))) 0 4)) (C := RX5) (T := TX5) (N := 11) hx hb hts hin_RX5 hown hE.1 hP 0 (wd_at (M := (st (st M (29 + 18 * tc) 0 v) (29 + 18 * tc) 1 (nI (tB v)))) (show 0 < n by omega) ((g_0 cy ad) _)) rfl 4 (by decide) hf32 (fun _ h9 => h9) rfl dX5_topic_34 ?_
    refine wr_top (y := (nI tc)) (by rw [st_r _ _ _ (by omega), st_r _ _ _ (by omega)]; exact htc) ?_
    refine lv_iconst (v := (nI 1)) hx hb dX5_topic_37 (by decide) ?_
    refine lv_iadd hx hb dX5_topic_38 ?_
    refine wr_top (y := (nI (tc + 1))) (nI_add _ _) ?_
    refine wr_put (cy := cy) (ad := ad) (ex := []) (ci := 4) (C := RX5) (T := TX5) (N := 11) (ty := .int) hx hb hts hin_RX5 tyX5 tyX5_ok nmX5 hown hE.1 hP hD hS 0 (show 0 < n by omega) ((g_0 cy ad) _) rfl 4 (by decide) hf32 (fun _ h9 => h9) rfl (by decide +kernel) rfl rfl (by simp) (((g_0 cy ad) _).trans (by simp [st_at])) dX5_topic_39 (fun H locs hP hS => ?_)
    refine lv_aload_n hx hb dX5_topic_42 rfl (lv_at hl 0 rfl) ?_
    refine va_get (D := D) (ci := 4) (v := .int ((st (st (st M (29 + 18 * tc) 0 v) (29 + 18 * tc) 1 (nI (tB v))) 0 4 (nI (tc + 1))) 0 4)) (C := RX5) (T := TX5) (N := 11) hx hb hts hin_RX5 hown hE.1 hP 0 (wd_at (M := (st (st (st M (29 + 18 * tc) 0 v) (29 + 18 * tc) 1 (nI (tB v))) 0 4 (nI (tc + 1)))) (show 0 < n by omega) ((g_0 cy ad) _)) rfl 4 (by decide) hf32 (fun _ h9 => h9) rfl dX5_topic_43 ?_
    refine wr_top (y := (nI (tc + 1))) (st_s _ _ _ _) ?_
    refine lv_iconst (v := (nI 1)) hx hb dX5_topic_46 (by decide) ?_
    refine lv_isub hx hb dX5_topic_47 ?_
    refine wr_top (y := (nI tc)) (nI_pred tc) ?_
    refine vx_ret ?_
    refine W.widen (k := 1) (n := 6) (Nat.le_of_ble_eq_true rfl) (Nat.le_of_ble_eq_true rfl) ?_
    exact W.iret (v := (nI tc)) hx hb hr (fun t ht hW => ⟨⟨(nI tc), (st (st (st M (29 + 18 * tc) 0 v) (29 + 18 * tc) 1 (nI (tB v))) 0 4 (nI (tc + 1))), rfl, ⟨rfl, by omega, rfl⟩, (by show va_P D vwCl _ t.heap; rw [ht]; exact hP)⟩, hS.F ht⟩) hS.2.2 dX5_topic_48
  · have c_6 := mt (nI_ltI (by omega) (by omega)).mpr c_6
    obtain ⟨sa, hstr⟩ := hX.2.2.1 (106, "there are 6 topics") (List.mem_of_getElem? (i := 5) rfl)
    exact vx_throwS (text := "there are 6 topics") (names := exN) (ik := 78) (is := 106) (ic := 82) (A := A) hx hb hlt hown ex_c78 ex_n (hts (.classLink RX5 78 "java/lang/IllegalStateException") (by decide +kernel)) (hts (.initialized "java/lang/IllegalStateException") (by decide +kernel)) hstr (vx_hat (fun w h => hts w (List.mem_cons_of_mem _ (List.mem_append_right _ h))) ex_b78 (ex_u hX (List.mem_of_getElem? (i := 1) rfl))) ex_g78 hX.1 hX.2.1 hS (hl.1.trans hml.symm) dX5_topic_9 dX5_topic_12 dX5_topic_13 dX5_topic_15 dX5_topic_18 (fun x h => (htab x h).elim) (Nat.le_of_ble_eq_true rfl) (Nat.le_of_ble_eq_true rfl) (Nat.le_of_ble_eq_true rfl) (Nat.le_of_ble_eq_true rfl) hlocks (fun t h1 h2 h3 => ⟨M, trivial, ⟨⟨rfl, by omega, rfl⟩, va_keep hP h3⟩, vx_fin hS h2 h3⟩) hS.2.2 (Nat.le_of_ble_eq_true rfl) (Nat.le_of_ble_eq_true rfl)

set_option maxHeartbeats 4000000 in
set_option maxRecDepth 100000 in
/-- base -/
theorem kX5_base (l : Launch) (hlt : l.stackTraces = false) {D : va_G} {cy ad : Nat → Nat} {n : Nat} {M : Mm} {A : Nat → Prop} (hD : ∀ M, va_D A (wd cy ad n M ++ [])) (hn : 137 ≤ n) {tc : Nat} {tp : Int32} (htc : M 0 4 = nI tc) (htc6 : tc ≤ 6)  : vx_Met l yX5_base wsX5_base ({ frames := 7, cells := 1, slots := 6, locals := 107 }) (va_Pc [.ref (ad 0), .int tp] (TW D cy (wd cy ad n M ++ []) A)) (va_Qi (S := Mm) (fun r u => 0 ≤ tp.toInt ∧ tp.toInt < (tc : Int) ∧ r = M (29 + 18 * vN tp) 1 ∧ u = M) (fun u t => va_P D vwCl (wd cy ad n u ++ []) t.heap) A) (vx_X (S := Mm) (fun _ => True) (fun E u t => (E = "java/lang/IllegalArgumentException" ∧ (tp.toInt < 0 ∨ (tc : Int) ≤ tp.toInt) ∧ u = M) ∧ va_P D vwCl (wd cy ad n u ++ []) t.heap) A) 1 6 A := by
  refine vx_ofW (cc := cX5_base) (maxL := 2) (ret := (some .int)) (by decide) rfl ?_
  intro p e s m args below meth c s₁ B hml htab hv
  obtain ⟨rfl, hP, hE, hA, hX⟩ := hv
  have hx := B.exec
  have hb := B.bytes
  have hr := B.returns
  have hts := atoms_spec (ws := wsX5_base) B.pre
  have hown : s.vm.findClass RX5 = some m.cls := findClass_of_methodNamed B.named
  have hlocks := B.notSynchronized
  have hf115 : (Cond.fieldLinkNest RX5 115 "RingPetition$Topic" "topicBase" "I" "RingPetition").before #[.ref (ad 0), .int tp] s = true := va_Nw.use rfl (hE.2 _ (List.mem_of_getElem? (i := 16) rfl))
  have hin_RX4 : ∀ w ∈ u_ws RX4 TX4 5, w ∈ wsX5_base := by decide +kernel
  have hS : va_S A s.heap s.heap [] := va_S.rf
  have hl := lv_entry ([.ref (ad 0), .int tp]) (n := 2) (Nat.le_of_ble_eq_true rfl)
  rw [lg_entry_eq]
  generalize (lg_sl ([.ref (ad 0), .int tp]) ++ List.replicate (2 - (lg_sl ([.ref (ad 0), .int tp])).length) Slot.unset).toArray = ls at hl ⊢
  have hl : lv_has ls 2 [(0, .ref (ad 0)), (1, .int tp)] := hl
  refine lv_aload_n hx hb dX5_base_0 rfl (lv_at hl 0 rfl) ?_
  refine lv_iload_n hx hb dX5_base_1 rfl (lv_at hl 1 rfl) ?_
  refine vx_callq (vx_runV (As := [.int tp]) (rest := []) ⟨hx, hb, hml, hown, hts⟩ (kX5_knownTopic l hlt hD hn htc htc6) (cwV 1 hts gX5_base_X5_knownTopic rfl rfl rfl (by decide +kernel) ⟨Nat.le_of_ble_eq_true rfl, Nat.le_of_ble_eq_true rfl⟩) (tw_pv (ci := 4) (q := (RX5, TX5, 11)) hE hP hS hA hX rfl (wd_at (M := M) (show 0 < n by omega) ((g_0 cy ad) _))) rfl rfl hl.1 rfl (lv_room (Nat.le_of_ble_eq_true rfl)) dX5_base_2 ⟨Nat.le_of_ble_eq_true rfl, Nat.le_of_ble_eq_true rfl⟩) hS (fun q _ h => h) (fun q h => h) (fun q _ h => h) (fun E9 ce q9 u t H1 locs1 ht hvm hpx hBX hz1 hk1 hS hce hcv hcl => ?_) (fun r_2 u_2 t H1 locs ht hvm hr_2 hB_2 hz1 hk1 hS => ?_)
  · exact vx_out (fun x h => (htab x h).elim) hlocks hce hcv hcl (fun t2 h1 h2 => ⟨u, trivial, ⟨⟨hBX.1.1, hBX.1.2.1, hBX.1.2.2⟩, by rw [h1, ← ht]; exact hBX.2⟩, hS.F h1⟩) hS.2.2 (Nat.le_of_ble_eq_true rfl) (Nat.le_of_ble_eq_true rfl)
  have hP : va_P D vwCl (wd cy ad n M ++ []) H1 := by rw [← ht]; exact hB_2
  clear hB_2 ht hvm hz1 hk1
  generalize H1 = H at hP hS ⊢
  obtain ⟨htp0, htp1, rfl⟩ := hr_2
  have ht6 : vN tp < 6 := by rw [vN_toInt]; omega
  refine va_getN (D := D) (ci := 3) (v := .int (M (29 + 18 * vN tp) 1)) (C := RX4) (T := TX4) (N := 5) hx hb hts hin_RX4 hown hE.1 hP (29 + 18 * vN tp) (wd_at (M := M) (show 29 + 18 * vN tp < n by omega) ((tp_t cy ad (show vN tp < 6 by omega)).1 _)) rfl 1 (by decide) hf115 (fun _ h9 => h9) rfl dX5_base_5 ?_
  refine vx_ret ?_
  refine W.widen (k := 1) (n := 6) (Nat.le_of_ble_eq_true rfl) (Nat.le_of_ble_eq_true rfl) ?_
  exact W.iret (v := (M (29 + 18 * vN tp) 1)) hx hb hr (fun t ht hW => ⟨⟨(M (29 + 18 * vN tp) 1), M, rfl, ⟨htp0, htp1, rfl, rfl⟩, (by show va_P D vwCl _ t.heap; rw [ht]; exact hP)⟩, hS.F ht⟩) hS.2.2 dX5_base_8

set_option maxHeartbeats 4000000 in
set_option maxRecDepth 100000 in
/-- count -/
theorem kX5_count (l : Launch) (hlt : l.stackTraces = false) {D : va_G} {cy ad : Nat → Nat} {n : Nat} {M : Mm} {A : Nat → Prop} (hD : ∀ M, va_D A (wd cy ad n M ++ [])) (hn : 137 ≤ n) {tc : Nat} {tp : Int32} (htc : M 0 4 = nI tc) (htc6 : tc ≤ 6)  : vx_Met l yX5_count wsX5_count ({ frames := 7, cells := 1, slots := 6, locals := 107 }) (va_Pc [.ref (ad 0), .int tp] (TW D cy (wd cy ad n M ++ []) A)) (va_Qi (S := Mm) (fun r u => 0 ≤ tp.toInt ∧ tp.toInt < (tc : Int) ∧ r = M (29 + 18 * vN tp) 4 ∧ u = M) (fun u t => va_P D vwCl (wd cy ad n u ++ []) t.heap) A) (vx_X (S := Mm) (fun _ => True) (fun E u t => (E = "java/lang/IllegalArgumentException" ∧ (tp.toInt < 0 ∨ (tc : Int) ≤ tp.toInt) ∧ u = M) ∧ va_P D vwCl (wd cy ad n u ++ []) t.heap) A) 1 6 A := by
  refine vx_ofW (cc := cX5_count) (maxL := 2) (ret := (some .int)) (by decide) rfl ?_
  intro p e s m args below meth c s₁ B hml htab hv
  obtain ⟨rfl, hP, hE, hA, hX⟩ := hv
  have hx := B.exec
  have hb := B.bytes
  have hr := B.returns
  have hts := atoms_spec (ws := wsX5_count) B.pre
  have hown : s.vm.findClass RX5 = some m.cls := findClass_of_methodNamed B.named
  have hlocks := B.notSynchronized
  have hf164 : (Cond.fieldLinkNest RX5 164 "RingPetition$Topic" "storedCount" "I" "RingPetition").before #[.ref (ad 0), .int tp] s = true := va_Nw.use rfl (hE.2 _ (List.mem_of_getElem? (i := 19) rfl))
  have hin_RX4 : ∀ w ∈ u_ws RX4 TX4 5, w ∈ wsX5_count := by decide +kernel
  have hS : va_S A s.heap s.heap [] := va_S.rf
  have hl := lv_entry ([.ref (ad 0), .int tp]) (n := 2) (Nat.le_of_ble_eq_true rfl)
  rw [lg_entry_eq]
  generalize (lg_sl ([.ref (ad 0), .int tp]) ++ List.replicate (2 - (lg_sl ([.ref (ad 0), .int tp])).length) Slot.unset).toArray = ls at hl ⊢
  have hl : lv_has ls 2 [(0, .ref (ad 0)), (1, .int tp)] := hl
  refine lv_aload_n hx hb dX5_count_0 rfl (lv_at hl 0 rfl) ?_
  refine lv_iload_n hx hb dX5_count_1 rfl (lv_at hl 1 rfl) ?_
  refine vx_callq (vx_runV (As := [.int tp]) (rest := []) ⟨hx, hb, hml, hown, hts⟩ (kX5_knownTopic l hlt hD hn htc htc6) (cwV 1 hts gX5_count_X5_knownTopic rfl rfl rfl (by decide +kernel) ⟨Nat.le_of_ble_eq_true rfl, Nat.le_of_ble_eq_true rfl⟩) (tw_pv (ci := 4) (q := (RX5, TX5, 11)) hE hP hS hA hX rfl (wd_at (M := M) (show 0 < n by omega) ((g_0 cy ad) _))) rfl rfl hl.1 rfl (lv_room (Nat.le_of_ble_eq_true rfl)) dX5_count_2 ⟨Nat.le_of_ble_eq_true rfl, Nat.le_of_ble_eq_true rfl⟩) hS (fun q _ h => h) (fun q h => h) (fun q _ h => h) (fun E9 ce q9 u t H1 locs1 ht hvm hpx hBX hz1 hk1 hS hce hcv hcl => ?_) (fun r_2 u_2 t H1 locs ht hvm hr_2 hB_2 hz1 hk1 hS => ?_)
  · exact vx_out (fun x h => (htab x h).elim) hlocks hce hcv hcl (fun t2 h1 h2 => ⟨u, trivial, ⟨⟨hBX.1.1, hBX.1.2.1, hBX.1.2.2⟩, by rw [h1, ← ht]; exact hBX.2⟩, hS.F h1⟩) hS.2.2 (Nat.le_of_ble_eq_true rfl) (Nat.le_of_ble_eq_true rfl)
  have hP : va_P D vwCl (wd cy ad n M ++ []) H1 := by rw [← ht]; exact hB_2
  clear hB_2 ht hvm hz1 hk1
  generalize H1 = H at hP hS ⊢
  obtain ⟨htp0, htp1, rfl⟩ := hr_2
  have ht6 : vN tp < 6 := by rw [vN_toInt]; omega
  refine va_getN (D := D) (ci := 3) (v := .int (M (29 + 18 * vN tp) 4)) (C := RX4) (T := TX4) (N := 5) hx hb hts hin_RX4 hown hE.1 hP (29 + 18 * vN tp) (wd_at (M := M) (show 29 + 18 * vN tp < n by omega) ((tp_t cy ad (show vN tp < 6 by omega)).1 _)) rfl 4 (by decide) hf164 (fun _ h9 => h9) rfl dX5_count_5 ?_
  refine vx_ret ?_
  refine W.widen (k := 1) (n := 6) (Nat.le_of_ble_eq_true rfl) (Nat.le_of_ble_eq_true rfl) ?_
  exact W.iret (v := (M (29 + 18 * vN tp) 4)) hx hb hr (fun t ht hW => ⟨⟨(M (29 + 18 * vN tp) 4), M, rfl, ⟨htp0, htp1, rfl, rfl⟩, (by show va_P D vwCl _ t.heap; rw [ht]; exact hP)⟩, hS.F ht⟩) hS.2.2 dX5_count_8

set_option maxHeartbeats 4000000 in
set_option maxRecDepth 100000 in
/-- seen -/
theorem kX5_seen (l : Launch) (hlt : l.stackTraces = false) {D : va_G} {cy ad : Nat → Nat} {n : Nat} {M : Mm} {A : Nat → Prop} (hD : ∀ M, va_D A (wd cy ad n M ++ [])) (hn : 137 ≤ n) {tc : Nat} {tp : Int32} (htc : M 0 4 = nI tc) (htc6 : tc ≤ 6) {sc : Nat} (hsc : M (29 + 18 * vN tp) 4 = nI sc) (hsc8 : sc ≤ 8) : vx_Met l yX5_seen wsX5_seen ({ frames := 7, cells := 1, slots := 6, locals := 107 }) (va_Pc [.ref (ad 0), .int tp] (TW D cy (wd cy ad n M ++ []) A)) (va_Qi (S := Mm) (fun r u => 0 ≤ tp.toInt ∧ tp.toInt < (tc : Int) ∧ bP (∃ j, j < sc ∧ j < sc ∧ M (29 + 18 * vN tp + 2 + 2 * j + 1) 1 = M (5 + 1) 1) r ∧ u = M) (fun u t => va_P D vwCl (wd cy ad n u ++ []) t.heap) A) (vx_X (S := Mm) (fun _ => True) (fun E u t => (E = "java/lang/IllegalArgumentException" ∧ (tp.toInt < 0 ∨ (tc : Int) ≤ tp.toInt) ∧ u = M) ∧ va_P D vwCl (wd cy ad n u ++ []) t.heap) A) 1 6 A := by
  refine vx_ofW (cc := cX5_seen) (maxL := 3) (ret := (some .boolean)) (by decide) rfl ?_
  intro p e s m args below meth c s₁ B hml htab hv
  obtain ⟨rfl, hP, hE, hA, hX⟩ := hv
  have hx := B.exec
  have hb := B.bytes
  have hr := B.returns
  have hts := atoms_spec (ws := wsX5_seen) B.pre
  have hown : s.vm.findClass RX5 = some m.cls := findClass_of_methodNamed B.named
  have hlocks := B.notSynchronized
  have hf141 : (Cond.fieldLinkNest RX5 141 "RingPetition$Signature" "numbers" "[I" "RingPetition").before #[.ref (ad 0), .int tp] s = true := va_Nw.use rfl (hE.2 _ (List.mem_of_getElem? (i := 7) rfl))
  have hf164 : (Cond.fieldLinkNest RX5 164 "RingPetition$Topic" "storedCount" "I" "RingPetition").before #[.ref (ad 0), .int tp] s = true := va_Nw.use rfl (hE.2 _ (List.mem_of_getElem? (i := 19) rfl))
  have hf38 : (Cond.fieldLink RX5 38 "RingPetition" "drafted" "LRingPetition$Signature;").before #[.ref (ad 0), .int tp] s = true := hts _ (by decide +kernel)
  have hin_RX3 : ∀ w ∈ u_ws RX3 TX3 4, w ∈ wsX5_seen := by decide +kernel
  have hin_RX4 : ∀ w ∈ u_ws RX4 TX4 5, w ∈ wsX5_seen := by decide +kernel
  have hin_RX5 : ∀ w ∈ u_ws RX5 TX5 11, w ∈ wsX5_seen := by decide +kernel
  have hS : va_S A s.heap s.heap [] := va_S.rf
  have hl := lv_entry ([.ref (ad 0), .int tp]) (n := 3) (Nat.le_of_ble_eq_true rfl)
  rw [lg_entry_eq]
  generalize (lg_sl ([.ref (ad 0), .int tp]) ++ List.replicate (3 - (lg_sl ([.ref (ad 0), .int tp])).length) Slot.unset).toArray = ls at hl ⊢
  have hl : lv_has ls 3 [(0, .ref (ad 0)), (1, .int tp)] := hl
  refine lv_aload_n hx hb dX5_seen_0 rfl (lv_at hl 0 rfl) ?_
  refine lv_iload_n hx hb dX5_seen_1 rfl (lv_at hl 1 rfl) ?_
  refine vx_callq (vx_runV (As := [.int tp]) (rest := []) ⟨hx, hb, hml, hown, hts⟩ (kX5_knownTopic l hlt hD hn htc htc6) (cwV 1 hts gX5_seen_X5_knownTopic rfl rfl rfl (by decide +kernel) ⟨Nat.le_of_ble_eq_true rfl, Nat.le_of_ble_eq_true rfl⟩) (tw_pv (ci := 4) (q := (RX5, TX5, 11)) hE hP hS hA hX rfl (wd_at (M := M) (show 0 < n by omega) ((g_0 cy ad) _))) rfl rfl hl.1 rfl (lv_room (Nat.le_of_ble_eq_true rfl)) dX5_seen_2 ⟨Nat.le_of_ble_eq_true rfl, Nat.le_of_ble_eq_true rfl⟩) hS (fun q _ h => h) (fun q h => h) (fun q _ h => h) (fun E9 ce q9 u t H1 locs1 ht hvm hpx hBX hz1 hk1 hS hce hcv hcl => ?_) (fun r_2 u_2 t H1 locs ht hvm hr_2 hB_2 hz1 hk1 hS => ?_)
  · exact vx_out (fun x h => (htab x h).elim) hlocks hce hcv hcl (fun t2 h1 h2 => ⟨u, trivial, ⟨⟨hBX.1.1, hBX.1.2.1, hBX.1.2.2⟩, by rw [h1, ← ht]; exact hBX.2⟩, hS.F h1⟩) hS.2.2 (Nat.le_of_ble_eq_true rfl) (Nat.le_of_ble_eq_true rfl)
  have hP : va_P D vwCl (wd cy ad n M ++ []) H1 := by rw [← ht]; exact hB_2
  clear hB_2 ht hvm hz1 hk1
  generalize H1 = H at hP hS ⊢
  obtain ⟨htp0, htp1, rfl⟩ := hr_2
  have ht6 : vN tp < 6 := by rw [vN_toInt]; omega
  refine lv_astore_n (lv' := [(2, .ref (ad (29 + 18 * vN tp))), (0, .ref (ad 0)), (1, .int tp)]) hx hb dX5_seen_5 rfl hl (by decide) rfl (fun ls hl => ?_)
  refine lv_aload_n hx hb dX5_seen_6 rfl (lv_at hl 0 rfl) ?_
  refine lv_aload_n hx hb dX5_seen_7 rfl (lv_at hl 0 rfl) ?_
  refine va_getN (D := D) (ci := 3) (v := .int (M (29 + 18 * vN tp) 4)) (C := RX4) (T := TX4) (N := 5) hx hb hts hin_RX4 hown hE.1 hP (29 + 18 * vN tp) (wd_at (M := M) (show 29 + 18 * vN tp < n by omega) ((tp_t cy ad (show vN tp < 6 by omega)).1 _)) rfl 4 (by decide) hf164 (fun _ h9 => h9) rfl dX5_seen_8 ?_
  refine wr_top (y := (nI sc)) hsc ?_
  refine lv_aload_n hx hb dX5_seen_11 rfl (lv_at hl 1 rfl) ?_
  refine va_get (D := D) (ci := 4) (v := .ref (ad 5)) (C := RX5) (T := TX5) (N := 11) hx hb hts hin_RX5 hown hE.1 hP 0 (wd_at (M := M) (show 0 < n by omega) ((g_0 cy ad) _)) rfl 5 (by decide) hf38 (fun _ h9 => h9) rfl dX5_seen_12 ?_
  refine va_getN (D := D) (ci := 2) (v := .ref (ad (5 + 1))) (C := RX3) (T := TX3) (N := 4) hx hb hts hin_RX3 hown hE.1 hP 5 (wd_at (M := M) (show 5 < n by omega) ((sg_5 cy ad).1 _)) rfl 0 (by decide) hf141 (fun _ h9 => h9) rfl dX5_seen_15 ?_
  refine lv_iconst (v := (nI 1)) hx hb dX5_seen_18 (by decide) ?_
  refine wr_ald (cy := cy) (ad := ad) (ex := []) hx hb hE.1 hP (5 + 1) (show 5 + 1 < n by omega) ((sg_5 cy ad).2 _) 1 rfl (by omega) (by decide) dX5_seen_19 ?_
  refine vp_callSi (W.runV (As := [.int (nI sc), .int (M (5 + 1) 1)]) (rest := []) ⟨hx, hb, hml, hown, hts⟩ (kX4_hasAmongFirst l (tp_t cy ad ht6) (by omega) hsc (by omega) hsc8) (cwV 2 hts gX5_seen_X4_hasAmongFirst rfl rfl rfl (by decide +kernel) ⟨Nat.le_of_ble_eq_true rfl, Nat.le_of_ble_eq_true rfl⟩) (ro_pv (ci := 3) (q := (RX4, TX4, 5)) hE hP rfl (wd_at (M := M) (show 29 + 18 * vN tp < n by omega) ((tp_t cy ad (show vN tp < 6 by omega)).1 _))) rfl rfl hl.1 rfl (lv_room (Nat.le_of_ble_eq_true rfl)) dX5_seen_20 ⟨Nat.le_of_ble_eq_true rfl, Nat.le_of_ble_eq_true rfl⟩) (fun r_20 hr_20 => ?_)
  refine vx_ret ?_
  refine W.widen (k := 1) (n := 6) (Nat.le_of_ble_eq_true rfl) (Nat.le_of_ble_eq_true rfl) ?_
  exact W.zret (v := r_20) hx hb hr (bP_nar hr_20) (fun t ht hW => ⟨⟨r_20, M, rfl, ⟨htp0, htp1, hr_20, rfl⟩, (by show va_P D vwCl _ t.heap; rw [ht]; exact hP)⟩, hS.F ht⟩) hS.2.2 dX5_seen_23

set_option maxHeartbeats 4000000 in
set_option maxRecDepth 100000 in
/-- close -/
theorem kX5_close (l : Launch) (hlt : l.stackTraces = false) {D : va_G} {cy ad : Nat → Nat} {n : Nat} {M : Mm} {A : Nat → Prop} (hD : ∀ M, va_D A (wd cy ad n M ++ [])) (hn : 137 ≤ n) {tc : Nat} {tp : Int32} (htc : M 0 4 = nI tc) (htc6 : tc ≤ 6)  : vx_Met l yX5_close wsX5_close ({ frames := 7, cells := 2, slots := 12, locals := 107 }) (va_Pc [.ref (ad 0), .int tp] (TW D cy (wd cy ad n M ++ []) A)) (va_Qi (S := Mm) (fun r u => 0 ≤ tp.toInt ∧ tp.toInt < (tc : Int) ∧ r = M (29 + 18 * vN tp) 4 ∧ M (29 + 18 * vN tp) 2 = 0 ∧ u = st M (29 + 18 * vN tp) 2 (nI 1)) (fun u t => va_P D vwCl (wd cy ad n u ++ []) t.heap) A) (vx_X (S := Mm) (fun _ => True) (fun E u t => (((E = "java/lang/IllegalArgumentException" ∧ (tp.toInt < 0 ∨ (tc : Int) ≤ tp.toInt)) ∨ (E = "java/lang/IllegalStateException" ∧ 0 ≤ tp.toInt ∧ tp.toInt < (tc : Int) ∧ ¬ M (29 + 18 * vN tp) 2 = 0)) ∧ u = M) ∧ va_P D vwCl (wd cy ad n u ++ []) t.heap) A) 2 12 A := by
  refine vx_ofW (cc := cX5_close) (maxL := 3) (ret := (some .int)) (by decide) rfl ?_
  intro p e s m args below meth c s₁ B hml htab hv
  obtain ⟨rfl, hP, hE, hA, hX⟩ := hv
  have hx := B.exec
  have hb := B.bytes
  have hr := B.returns
  have hts := atoms_spec (ws := wsX5_close) B.pre
  have hown : s.vm.findClass RX5 = some m.cls := findClass_of_methodNamed B.named
  have hlocks := B.notSynchronized
  have hf152 : (Cond.fieldLinkNest RX5 152 "RingPetition$Topic" "closed" "Z" "RingPetition").before #[.ref (ad 0), .int tp] s = true := va_Nw.use rfl (hE.2 _ (List.mem_of_getElem? (i := 17) rfl))
  have hf164 : (Cond.fieldLinkNest RX5 164 "RingPetition$Topic" "storedCount" "I" "RingPetition").before #[.ref (ad 0), .int tp] s = true := va_Nw.use rfl (hE.2 _ (List.mem_of_getElem? (i := 19) rfl))
  have hin_RX4 : ∀ w ∈ u_ws RX4 TX4 5, w ∈ wsX5_close := by decide +kernel
  have hS : va_S A s.heap s.heap [] := va_S.rf
  have hl := lv_entry ([.ref (ad 0), .int tp]) (n := 3) (Nat.le_of_ble_eq_true rfl)
  rw [lg_entry_eq]
  generalize (lg_sl ([.ref (ad 0), .int tp]) ++ List.replicate (3 - (lg_sl ([.ref (ad 0), .int tp])).length) Slot.unset).toArray = ls at hl ⊢
  have hl : lv_has ls 3 [(0, .ref (ad 0)), (1, .int tp)] := hl
  refine lv_aload_n hx hb dX5_close_0 rfl (lv_at hl 0 rfl) ?_
  refine lv_iload_n hx hb dX5_close_1 rfl (lv_at hl 1 rfl) ?_
  refine vx_callq (vx_runV (As := [.int tp]) (rest := []) ⟨hx, hb, hml, hown, hts⟩ (kX5_knownTopic l hlt hD hn htc htc6) (cwV 1 hts gX5_close_X5_knownTopic rfl rfl rfl (by decide +kernel) ⟨Nat.le_of_ble_eq_true rfl, Nat.le_of_ble_eq_true rfl⟩) (tw_pv (ci := 4) (q := (RX5, TX5, 11)) hE hP hS hA hX rfl (wd_at (M := M) (show 0 < n by omega) ((g_0 cy ad) _))) rfl rfl hl.1 rfl (lv_room (Nat.le_of_ble_eq_true rfl)) dX5_close_2 ⟨Nat.le_of_ble_eq_true rfl, Nat.le_of_ble_eq_true rfl⟩) hS (fun q _ h => h) (fun q h => h) (fun q _ h => h) (fun E9 ce q9 u t H1 locs1 ht hvm hpx hBX hz1 hk1 hS hce hcv hcl => ?_) (fun r_2 u_2 t H1 locs ht hvm hr_2 hB_2 hz1 hk1 hS => ?_)
  · exact vx_out (fun x h => (htab x h).elim) hlocks hce hcv hcl (fun t2 h1 h2 => ⟨u, trivial, ⟨⟨Or.inl ⟨hBX.1.1, hBX.1.2.1⟩, hBX.1.2.2⟩, by rw [h1, ← ht]; exact hBX.2⟩, hS.F h1⟩) hS.2.2 (Nat.le_of_ble_eq_true rfl) (Nat.le_of_ble_eq_true rfl)
  have hP : va_P D vwCl (wd cy ad n M ++ []) H1 := by rw [← ht]; exact hB_2
  clear hB_2 ht hvm hz1 hk1
  generalize H1 = H at hP hS ⊢
  obtain ⟨htp0, htp1, rfl⟩ := hr_2
  have ht6 : vN tp < 6 := by rw [vN_toInt]; omega
  refine lv_astore_n (lv' := [(2, .ref (ad (29 + 18 * vN tp))), (0, .ref (ad 0)), (1, .int tp)]) hx hb dX5_close_5 rfl hl (by decide) rfl (fun ls hl => ?_)
  refine lv_aload_n hx hb dX5_close_6 rfl (lv_at hl 0 rfl) ?_
  refine va_getN (D := D) (ci := 3) (v := .int (M (29 + 18 * vN tp) 2)) (C := RX4) (T := TX4) (N := 5) hx hb hts hin_RX4 hown hE.1 hP (29 + 18 * vN tp) (wd_at (M := M) (show 29 + 18 * vN tp < n by omega) ((tp_t cy ad (show vN tp < 6 by omega)).1 _)) rfl 2 (by decide) hf152 (fun _ h9 => h9) rfl dX5_close_7 ?_
  refine lv_if_eq (tgt := 23) hx hb dX5_close_10 (by decide) (fun c_10 => ?_) (fun c_10 => ?_)
  · refine lv_aload_n hx hb dX5_close_23 rfl (lv_at hl 0 rfl) ?_
    refine lv_iconst (v := (nI 1)) hx hb dX5_close_24 (by decide) ?_
    refine wr_putN (cy := cy) (ad := ad) (ex := []) (ci := 3) (C := RX4) (T := TX4) (N := 5) (ty := .boolean) hx hb hts hin_RX4 tyX4 tyX4_ok nmX4 hown hE.1 hP hD hS (29 + 18 * vN tp) (show 29 + 18 * vN tp < n by omega) ((tp_t cy ad (show vN tp < 6 by omega)).1 _) rfl 2 (by decide) hf152 (fun _ h9 => h9) rfl (by decide +kernel) (by decide) (by decide) (by simp) (((tp_t cy ad (show vN tp < 6 by omega)).1 _).trans (by simp [st_at])) dX5_close_25 (fun H locs hP hS => ?_)
    refine lv_aload_n hx hb dX5_close_28 rfl (lv_at hl 0 rfl) ?_
    refine va_getN (D := D) (ci := 3) (v := .int ((st M (29 + 18 * vN tp) 2 (nI 1)) (29 + 18 * vN tp) 4)) (C := RX4) (T := TX4) (N := 5) hx hb hts hin_RX4 hown hE.1 hP (29 + 18 * vN tp) (wd_at (M := (st M (29 + 18 * vN tp) 2 (nI 1))) (show 29 + 18 * vN tp < n by omega) ((tp_t cy ad (show vN tp < 6 by omega)).1 _)) rfl 4 (by decide) hf164 (fun _ h9 => h9) rfl dX5_close_29 ?_
    refine wr_top (y := (M (29 + 18 * vN tp) 4)) (st_c _ _ _ (by decide)) ?_
    refine vx_ret ?_
    refine W.widen (k := 2) (n := 12) (Nat.le_of_ble_eq_true rfl) (Nat.le_of_ble_eq_true rfl) ?_
    exact W.iret (v := (M (29 + 18 * vN tp) 4)) hx hb hr (fun t ht hW => ⟨⟨(M (29 + 18 * vN tp) 4), (st M (29 + 18 * vN tp) 2 (nI 1)), rfl, ⟨htp0, htp1, rfl, c_10, rfl⟩, (by show va_P D vwCl _ t.heap; rw [ht]; exact hP)⟩, hS.F ht⟩) hS.2.2 dX5_close_32
  · obtain ⟨sa, hstr⟩ := hX.2.2.1 (156, "the topic is closed") (List.mem_of_getElem? (i := 9) rfl)
    exact vx_throwS (text := "the topic is closed") (names := exN) (ik := 78) (is := 156) (ic := 82) (A := A) hx hb hlt hown ex_c78 ex_n (hts (.classLink RX5 78 "java/lang/IllegalStateException") (by decide +kernel)) (hts (.initialized "java/lang/IllegalStateException") (by decide +kernel)) hstr (vx_hat (fun w h => hts w (List.mem_cons_of_mem _ (List.mem_append_left _ (List.mem_append_right _ h)))) ex_b78 (ex_u hX (List.mem_of_getElem? (i := 1) rfl))) ex_g78 hX.1 hX.2.1 hS (hl.1.trans hml.symm) dX5_close_13 dX5_close_16 dX5_close_17 dX5_close_19 dX5_close_22 (fun x h => (htab x h).elim) (Nat.le_of_ble_eq_true rfl) (Nat.le_of_ble_eq_true rfl) (Nat.le_of_ble_eq_true rfl) (Nat.le_of_ble_eq_true rfl) hlocks (fun t h1 h2 h3 => ⟨M, trivial, ⟨⟨Or.inr ⟨rfl, htp0, htp1, c_10⟩, rfl⟩, va_keep hP h3⟩, vx_fin hS h2 h3⟩) hS.2.2 (Nat.le_of_ble_eq_true rfl) (Nat.le_of_ble_eq_true rfl)

set_option maxHeartbeats 4000000 in
set_option maxRecDepth 100000 in
/-- spoil -/
theorem kX5_spoil (l : Launch) (hlt : l.stackTraces = false) {D : va_G} {cy ad : Nat → Nat} {n : Nat} {M : Mm} {A : Nat → Prop} (hD : ∀ M, va_D A (wd cy ad n M ++ [])) (hn : 137 ≤ n) {tc : Nat} {tp : Int32} (htc : M 0 4 = nI tc) (htc6 : tc ≤ 6) {kx ix v : Int32} {sc : Nat} {sz : Nat → Nat} (hsc : M (29 + 18 * vN tp) 4 = nI sc) (hsc8 : sc ≤ 8) (hsg : ∀ k, k < sc → M (29 + 18 * vN tp + 2 + 2 * k) 1 = nI (sz k)) (hsz8 : ∀ k, sz k ≤ 8) : vx_Met l yX5_spoil wsX5_spoil ({ frames := 7, cells := 2, slots := 12, locals := 107 }) (va_Pc [.ref (ad 0), .int tp, .int kx, .int ix, .int v] (TW D cy (wd cy ad n M ++ []) A)) (va_Qv (S := Mm) (fun u => 0 ≤ tp.toInt ∧ tp.toInt < (tc : Int) ∧ 0 ≤ kx.toInt ∧ kx.toInt < (sc : Int) ∧ 0 ≤ ix.toInt ∧ ix.toInt < (sz (vN kx) : Int) ∧ u = st M (29 + 18 * vN tp + 2 + 2 * vN kx + 1) (vN ix) v) (fun u t => va_P D vwCl (wd cy ad n u ++ []) t.heap) A) (vx_X (S := Mm) (fun _ => True) (fun E u t => (((E = "java/lang/IllegalArgumentException" ∧ (tp.toInt < 0 ∨ (tc : Int) ≤ tp.toInt)) ∨ (E = "java/lang/IndexOutOfBoundsException" ∧ 0 ≤ tp.toInt ∧ tp.toInt < (tc : Int) ∧ ((kx.toInt < 0 ∨ (sc : Int) ≤ kx.toInt) ∨ (0 ≤ kx.toInt ∧ kx.toInt < (sc : Int) ∧ ¬ (0 ≤ ix.toInt ∧ ix.toInt < (sz (vN kx) : Int)))))) ∧ u = M) ∧ va_P D vwCl (wd cy ad n u ++ []) t.heap) A) 2 12 A := by
  refine vx_ofW (cc := cX5_spoil) (maxL := 6) (ret := none) (by decide) rfl ?_
  intro p e s m args below meth c s₁ B hml htab hv
  obtain ⟨rfl, hP, hE, hA, hX⟩ := hv
  have hx := B.exec
  have hb := B.bytes
  have hr := B.returns
  have hts := atoms_spec (ws := wsX5_spoil) B.pre
  have hown : s.vm.findClass RX5 = some m.cls := findClass_of_methodNamed B.named
  have hlocks := B.notSynchronized
  have hf141 : (Cond.fieldLinkNest RX5 141 "RingPetition$Signature" "numbers" "[I" "RingPetition").before #[.ref (ad 0), .int tp, .int kx, .int ix, .int v] s = true := va_Nw.use rfl (hE.2 _ (List.mem_of_getElem? (i := 7) rfl))
  have hf164 : (Cond.fieldLinkNest RX5 164 "RingPetition$Topic" "storedCount" "I" "RingPetition").before #[.ref (ad 0), .int tp, .int kx, .int ix, .int v] s = true := va_Nw.use rfl (hE.2 _ (List.mem_of_getElem? (i := 19) rfl))
  have hf186 : (Cond.fieldLinkNest RX5 186 "RingPetition$Topic" "stored" "[LRingPetition$Signature;" "RingPetition").before #[.ref (ad 0), .int tp, .int kx, .int ix, .int v] s = true := va_Nw.use rfl (hE.2 _ (List.mem_of_getElem? (i := 18) rfl))
  have hin_RX3 : ∀ w ∈ u_ws RX3 TX3 4, w ∈ wsX5_spoil := by decide +kernel
  have hin_RX4 : ∀ w ∈ u_ws RX4 TX4 5, w ∈ wsX5_spoil := by decide +kernel
  have hS : va_S A s.heap s.heap [] := va_S.rf
  have hl := lv_entry ([.ref (ad 0), .int tp, .int kx, .int ix, .int v]) (n := 6) (Nat.le_of_ble_eq_true rfl)
  rw [lg_entry_eq]
  generalize (lg_sl ([.ref (ad 0), .int tp, .int kx, .int ix, .int v]) ++ List.replicate (6 - (lg_sl ([.ref (ad 0), .int tp, .int kx, .int ix, .int v])).length) Slot.unset).toArray = ls at hl ⊢
  have hl : lv_has ls 6 [(0, .ref (ad 0)), (1, .int tp), (2, .int kx), (3, .int ix), (4, .int v)] := hl
  refine lv_aload_n hx hb dX5_spoil_0 rfl (lv_at hl 0 rfl) ?_
  refine lv_iload_n hx hb dX5_spoil_1 rfl (lv_at hl 1 rfl) ?_
  refine vx_callq (vx_runV (As := [.int tp]) (rest := []) ⟨hx, hb, hml, hown, hts⟩ (kX5_knownTopic l hlt hD hn htc htc6) (cwV 1 hts gX5_spoil_X5_knownTopic rfl rfl rfl (by decide +kernel) ⟨Nat.le_of_ble_eq_true rfl, Nat.le_of_ble_eq_true rfl⟩) (tw_pv (ci := 4) (q := (RX5, TX5, 11)) hE hP hS hA hX rfl (wd_at (M := M) (show 0 < n by omega) ((g_0 cy ad) _))) rfl rfl hl.1 rfl (lv_room (Nat.le_of_ble_eq_true rfl)) dX5_spoil_2 ⟨Nat.le_of_ble_eq_true rfl, Nat.le_of_ble_eq_true rfl⟩) hS (fun q _ h => h) (fun q h => h) (fun q _ h => h) (fun E9 ce q9 u t H1 locs1 ht hvm hpx hBX hz1 hk1 hS hce hcv hcl => ?_) (fun r_2 u_2 t H1 locs ht hvm hr_2 hB_2 hz1 hk1 hS => ?_)
  · exact vx_out (fun x h => (htab x h).elim) hlocks hce hcv hcl (fun t2 h1 h2 => ⟨u, trivial, ⟨⟨Or.inl ⟨hBX.1.1, hBX.1.2.1⟩, hBX.1.2.2⟩, by rw [h1, ← ht]; exact hBX.2⟩, hS.F h1⟩) hS.2.2 (Nat.le_of_ble_eq_true rfl) (Nat.le_of_ble_eq_true rfl)
  have hP : va_P D vwCl (wd cy ad n M ++ []) H1 := by rw [← ht]; exact hB_2
  clear hB_2 ht hvm hz1 hk1
  generalize H1 = H at hP hS ⊢
  obtain ⟨htp0, htp1, rfl⟩ := hr_2
  have ht6 : vN tp < 6 := by rw [vN_toInt]; omega
  refine lv_astore (lv' := [(5, .ref (ad (29 + 18 * vN tp))), (0, .ref (ad 0)), (1, .int tp), (2, .int kx), (3, .int ix), (4, .int v)]) hx hb dX5_spoil_5 hl (by decide) rfl (fun ls hl => ?_)
  refine lv_iload_n hx hb dX5_spoil_7 rfl (lv_at hl 3 rfl) ?_
  refine lv_if_lt (tgt := 20) hx hb dX5_spoil_8 (by decide) (fun c_8 => ?_) (fun c_8 => ?_)
  · have c_8 := (o_lt0 _).mp c_8
    obtain ⟨sa, hstr⟩ := hX.2.2.1 (184, "no such signature") (List.mem_of_getElem? (i := 12) rfl)
    exact vx_throwS (text := "no such signature") (names := exN) (ik := 147) (is := 184) (ic := 151) (A := A) hx hb hlt hown ex_c147 ex_n (hts (.classLink RX5 147 "java/lang/IndexOutOfBoundsException") (by decide +kernel)) (hts (.initialized "java/lang/IndexOutOfBoundsException") (by decide +kernel)) hstr (vx_hat (fun w h => hts w (List.mem_cons_of_mem _ (List.mem_append_left _ (List.mem_append_right _ h)))) ex_b147 (ex_u hX (List.mem_of_getElem? (i := 2) rfl))) ex_g147 hX.1 hX.2.1 hS (hl.1.trans hml.symm) dX5_spoil_20 dX5_spoil_23 dX5_spoil_24 dX5_spoil_26 dX5_spoil_29 (fun x h => (htab x h).elim) (Nat.le_of_ble_eq_true rfl) (Nat.le_of_ble_eq_true rfl) (Nat.le_of_ble_eq_true rfl) (Nat.le_of_ble_eq_true rfl) hlocks (fun t h1 h2 h3 => ⟨M, trivial, ⟨⟨Or.inr ⟨rfl, htp0, htp1, Or.inl (by omega)⟩, rfl⟩, va_keep hP h3⟩, vx_fin hS h2 h3⟩) hS.2.2 (Nat.le_of_ble_eq_true rfl) (Nat.le_of_ble_eq_true rfl)
  · have c_8 := mt (o_lt0 _).mpr c_8
    refine lv_iload_n hx hb dX5_spoil_11 rfl (lv_at hl 3 rfl) ?_
    refine lv_aload hx hb dX5_spoil_12 (lv_at hl 0 rfl) ?_
    refine va_getN (D := D) (ci := 3) (v := .int (M (29 + 18 * vN tp) 4)) (C := RX4) (T := TX4) (N := 5) hx hb hts hin_RX4 hown hE.1 hP (29 + 18 * vN tp) (wd_at (M := M) (show 29 + 18 * vN tp < n by omega) ((tp_t cy ad (show vN tp < 6 by omega)).1 _)) rfl 4 (by decide) hf164 (fun _ h9 => h9) rfl dX5_spoil_14 ?_
    refine wr_top (y := (nI sc)) hsc ?_
    refine lv_icmp_lt (tgt := 30) hx hb dX5_spoil_17 (by decide) (fun c_17 => ?_) (fun c_17 => ?_)
    · have c_17 := (o_gt (by omega) _).mp c_17
      have hk8 : vN kx < 8 := by rw [vN_toInt]; omega
      refine lv_aload hx hb dX5_spoil_30 (lv_at hl 0 rfl) ?_
      refine va_getN (D := D) (ci := 3) (v := .ref (ad (29 + 18 * vN tp + 1))) (C := RX4) (T := TX4) (N := 5) hx hb hts hin_RX4 hown hE.1 hP (29 + 18 * vN tp) (wd_at (M := M) (show 29 + 18 * vN tp < n by omega) ((tp_t cy ad (show vN tp < 6 by omega)).1 _)) rfl 3 (by decide) hf186 (fun _ h9 => h9) rfl dX5_spoil_32 ?_
      refine lv_iload_n hx hb dX5_spoil_35 rfl (lv_at hl 3 rfl) ?_
      refine wr_aldq (cy := cy) (ad := ad) (ex := []) hx hb hE.1 hP (29 + 18 * vN tp + 1) (show 29 + 18 * vN tp + 1 < n by omega) 4 ((tp_t cy ad (show vN tp < 6 by omega)).2.1 _) rfl (vN kx) (x_vN (by omega)) hk8 (by decide) dX5_spoil_36 ?_
      refine lv_iload_n hx hb dX5_spoil_37 rfl (lv_at hl 4 rfl) ?_
      refine vp_callSi (W.runV (As := [.int ix]) (rest := []) ⟨hx, hb, hml, hown, hts⟩ (kX3_hasNumber l (sg_s cy ad ht6 hk8) (by omega) (by omega) (hsg _ (by rw [vN_toInt]; omega)) (hsz8 _)) (cwV 1 hts gX5_spoil_X3_hasNumber rfl rfl rfl (by decide +kernel) ⟨Nat.le_of_ble_eq_true rfl, Nat.le_of_ble_eq_true rfl⟩) (ro_pv (ci := 2) (q := (RX3, TX3, 4)) hE hP rfl (wd_at (M := M) (show 29 + 18 * vN tp + 2 + 2 * (vN kx) < n by omega) (((tp_t cy ad (show vN tp < 6 by omega)).2.2 (vN kx) (by omega)).1 _))) rfl rfl hl.1 rfl (lv_room (Nat.le_of_ble_eq_true rfl)) dX5_spoil_38 ⟨Nat.le_of_ble_eq_true rfl, Nat.le_of_ble_eq_true rfl⟩) (fun r_38 hr_38 => ?_)
      rcases hr_38 with ⟨hq_38, rfl⟩ | ⟨hq_38, rfl⟩
      · refine lv_if_ne (tgt := 54) hx hb dX5_spoil_41 (by decide) (fun c_41 => ?_) (fun c_41 => ?_)
        · have c_41 := mt (o_eq0 _).mpr c_41
          refine lv_aload hx hb dX5_spoil_54 (lv_at hl 0 rfl) ?_
          refine va_getN (D := D) (ci := 3) (v := .ref (ad (29 + 18 * vN tp + 1))) (C := RX4) (T := TX4) (N := 5) hx hb hts hin_RX4 hown hE.1 hP (29 + 18 * vN tp) (wd_at (M := M) (show 29 + 18 * vN tp < n by omega) ((tp_t cy ad (show vN tp < 6 by omega)).1 _)) rfl 3 (by decide) hf186 (fun _ h9 => h9) rfl dX5_spoil_56 ?_
          refine lv_iload_n hx hb dX5_spoil_59 rfl (lv_at hl 3 rfl) ?_
          refine wr_aldq (cy := cy) (ad := ad) (ex := []) hx hb hE.1 hP (29 + 18 * vN tp + 1) (show 29 + 18 * vN tp + 1 < n by omega) 4 ((tp_t cy ad (show vN tp < 6 by omega)).2.1 _) rfl (vN kx) (x_vN (by omega)) hk8 (by decide) dX5_spoil_60 ?_
          refine va_getN (D := D) (ci := 2) (v := .ref (ad (29 + 18 * vN tp + 2 + 2 * (vN kx) + 1))) (C := RX3) (T := TX3) (N := 4) hx hb hts hin_RX3 hown hE.1 hP (29 + 18 * vN tp + 2 + 2 * (vN kx)) (wd_at (M := M) (show 29 + 18 * vN tp + 2 + 2 * (vN kx) < n by omega) (((tp_t cy ad (show vN tp < 6 by omega)).2.2 (vN kx) (by omega)).1 _)) rfl 0 (by decide) hf141 (fun _ h9 => h9) rfl dX5_spoil_61 ?_
          refine lv_iload_n hx hb dX5_spoil_64 rfl (lv_at hl 4 rfl) ?_
          refine lv_iload hx hb dX5_spoil_65 (lv_at hl 5 rfl) ?_
          refine wr_ast (cy := cy) (ad := ad) (ex := []) hx hb hE.1 hP hD hS (29 + 18 * vN tp + 2 + 2 * (vN kx) + 1) (show 29 + 18 * vN tp + 2 + 2 * (vN kx) + 1 < n by omega) ((tp_t cy ad (show vN tp < 6 by omega)).2.2 (vN kx) (by omega)).2 (vN ix) (x_vN (by omega)) (by have h9 := hsz8 (vN kx); have h8 := hq_38.2; rw [vN_toInt]; omega) (by decide) dX5_spoil_67 (fun H locs hP hS => ?_)
          refine vx_ret ?_
          refine W.widen (k := 2) (n := 12) (Nat.le_of_ble_eq_true rfl) (Nat.le_of_ble_eq_true rfl) ?_
          exact W.vret hx hb hr (fun t ht hW => ⟨⟨(st M (29 + 18 * vN tp + 2 + 2 * (vN kx) + 1) (vN ix) v), rfl, ⟨htp0, htp1, by omega, by omega, hq_38.1, hq_38.2, rfl⟩, (by show va_P D vwCl _ t.heap; rw [ht]; exact hP)⟩, hS.F ht⟩) hS.2.2 dX5_spoil_68
        · exact absurd c_41 (by decide)
      · refine lv_if_ne (tgt := 54) hx hb dX5_spoil_41 (by decide) (fun c_41 => ?_) (fun c_41 => ?_)
        · exact absurd c_41 (by decide)
        · have c_41 := (o_eq0 _).mp c_41
          obtain ⟨sa, hstr⟩ := hX.2.2.1 (190, "the signature has no such number") (List.mem_of_getElem? (i := 13) rfl)
          exact vx_throwS (text := "the signature has no such number") (names := exN) (ik := 147) (is := 190) (ic := 151) (A := A) hx hb hlt hown ex_c147 ex_n (hts (.classLink RX5 147 "java/lang/IndexOutOfBoundsException") (by decide +kernel)) (hts (.initialized "java/lang/IndexOutOfBoundsException") (by decide +kernel)) hstr (vx_hat (fun w h => hts w (List.mem_cons_of_mem _ (List.mem_append_left _ (List.mem_append_right _ h)))) ex_b147 (ex_u hX (List.mem_of_getElem? (i := 2) rfl))) ex_g147 hX.1 hX.2.1 hS (hl.1.trans hml.symm) dX5_spoil_44 dX5_spoil_47 dX5_spoil_48 dX5_spoil_50 dX5_spoil_53 (fun x h => (htab x h).elim) (Nat.le_of_ble_eq_true rfl) (Nat.le_of_ble_eq_true rfl) (Nat.le_of_ble_eq_true rfl) (Nat.le_of_ble_eq_true rfl) hlocks (fun t h1 h2 h3 => ⟨M, trivial, ⟨⟨Or.inr ⟨rfl, htp0, htp1, Or.inr ⟨by omega, by omega, hq_38⟩⟩, rfl⟩, va_keep hP h3⟩, vx_fin hS h2 h3⟩) hS.2.2 (Nat.le_of_ble_eq_true rfl) (Nat.le_of_ble_eq_true rfl)
    · have c_17 := mt (o_gt (by omega) _).mpr c_17
      obtain ⟨sa, hstr⟩ := hX.2.2.1 (184, "no such signature") (List.mem_of_getElem? (i := 12) rfl)
      exact vx_throwS (text := "no such signature") (names := exN) (ik := 147) (is := 184) (ic := 151) (A := A) hx hb hlt hown ex_c147 ex_n (hts (.classLink RX5 147 "java/lang/IndexOutOfBoundsException") (by decide +kernel)) (hts (.initialized "java/lang/IndexOutOfBoundsException") (by decide +kernel)) hstr (vx_hat (fun w h => hts w (List.mem_cons_of_mem _ (List.mem_append_left _ (List.mem_append_right _ h)))) ex_b147 (ex_u hX (List.mem_of_getElem? (i := 2) rfl))) ex_g147 hX.1 hX.2.1 hS (hl.1.trans hml.symm) dX5_spoil_20 dX5_spoil_23 dX5_spoil_24 dX5_spoil_26 dX5_spoil_29 (fun x h => (htab x h).elim) (Nat.le_of_ble_eq_true rfl) (Nat.le_of_ble_eq_true rfl) (Nat.le_of_ble_eq_true rfl) (Nat.le_of_ble_eq_true rfl) hlocks (fun t h1 h2 h3 => ⟨M, trivial, ⟨⟨Or.inr ⟨rfl, htp0, htp1, Or.inl (by omega)⟩, rfl⟩, va_keep hP h3⟩, vx_fin hS h2 h3⟩) hS.2.2 (Nat.le_of_ble_eq_true rfl) (Nat.le_of_ble_eq_true rfl)
