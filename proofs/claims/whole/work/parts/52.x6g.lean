def msOK (rc tc : Nat) (rs : Nat → Nat) (M : Mm) (rg tp pl sec : Int32) : Prop := (0 ≤ rg.toInt ∧ rg.toInt < (rc : Int)) ∧ (0 ≤ tp.toInt ∧ tp.toInt < (tc : Int)) ∧ (0 ≤ pl.toInt ∧ pl.toInt < (rs (vN rg) : Int)) ∧ (0 < sec.toInt ∧ sec.toInt < 1013) ∧ nI (4 ^ vN sec % 2027) = M 142 (6 * vN rg + vN pl)
theorem xm2_vN {x : Int32} (k : Nat) (h : 0 ≤ x.toInt) : x * nI k = nI (vN x * k) := by
  conv => lhs; rw [x_vN h]
  exact pk_mul _ _
theorem x1_vN {x : Int32} (h : 0 ≤ x.toInt) : x + nI 1 = nI (vN x + 1) := by
  conv => lhs; rw [x_vN h]
  exact nI_1 _
theorem sb_nI {a b c : Nat} (h : b ≤ c) : nI a - nI b + nI c = nI (a + c - b) := by
  have e : nI (a + c - b) + nI b = nI a + nI c := by
    rw [nI_add, nI_add]
    exact congrArg nI (by omega)
  rw [Int32.sub_eq_add_neg, Int32.add_assoc, Int32.add_comm (-nI b), ← Int32.add_assoc, ← e, ← Int32.sub_eq_add_neg, Int32.add_sub_cancel]
theorem dl_pw {B e : Nat} (h : eltN B = true) : 4 ^ (dlg B * e % 1013) % 2027 = B ^ e % 2027 := by
  rw [g_red, Nat.pow_mul, Nat.pow_mod, (g_dl h).2.2]
theorem dl_lt {B e : Nat} (h : eltN B = true) (he : e < 1013) : dlg B * e < 2 ^ 31 := by
  have h1 : dlg B * e < 1013 * 1013 := Nat.mul_lt_mul'' (g_dl h).2.1 he
  omega
theorem plN_m {z p k : Nat} : (plN z p k + 1) % z = plN z p (k + 1) := by
  unfold plN
  rw [Nat.mod_add_mod, Nat.add_assoc]
section MS
variable {z : Nat} {y : Nat → Int32} {v mo : Int32} {B sn p k : Nat} {L N : Mm}
def msI (z : Nat) (y : Nat → Int32) (v mo : Int32) (B sn p : Nat) (L : Mm) (k : Nat) (N : Mm) : Prop :=
  (∀ a, a ≠ 137 → a ≠ 153 → N a = L a) ∧ (∀ c, c ≠ 26 → N 137 c = L 137 c) ∧ N 153 1 = nI (B ^ sn % 2027) ∧
  (z - 1 - p ≤ k → N 153 0 = nI (snC (stmI z y v mo (nI (B ^ sn % 2027))) B (B ^ sn % 2027) y (nI sn) v mo z p (ncN (nI sn) v mo p) (z - 1 - p))) ∧
  ∀ j, j < k → N 153 (2 + plN z p j) = nI (ncN (nI sn) v mo (plN z p j))
theorem ms_0 (hp : p < z) {N1 N2 : Mm} (h1 : mxP (st L 153 1 (nI (B ^ sn % 2027))) N1) (h2 : mxP N1 N2) {x : Int32}
    (hx : plN z p 0 = 0 → x = nI (snC (stmI z y v mo (nI (B ^ sn % 2027))) B (B ^ sn % 2027) y (nI sn) v mo z p (ncN (nI sn) v mo p) 0)) : msI z y v mo B sn p L 0 (st N2 153 0 x) := by
  refine ⟨fun a a1 a2 => ?_, fun c hc => ?_, ?_, fun h => ?_, fun j h => absurd h (Nat.not_lt_zero j)⟩
  · rw [st_r _ _ _ a2, h2.1 a a1, h1.1 a a1, st_r _ _ _ a2]
  · rw [st_r _ _ _ (by decide), h2.2 c hc, h1.2 c hc, st_r _ _ _ (by decide)]
  · rw [st_c _ _ _ (by decide), h2.1 153 (by decide), h1.1 153 (by decide), st_s]
  · have h0 : 0 = z - 1 - p := by omega
    rw [st_s, hx ((plN_z hp (by omega)).mpr h0), ← h0]
theorem ms_s (hp : p < z) (hk : k + 1 < z) (h : msI z y v mo B sn p L k N) {N1 N2 : Mm} (h1 : mxP N N1) (h2 : mxP (st N1 153 (2 + plN z p k) (nI (ncN (nI sn) v mo (plN z p k)))) N2) {x : Int32}
    (hx : (plN z p (k + 1) = 0 ∧ x = nI (snC (stmI z y v mo (nI (B ^ sn % 2027))) B (B ^ sn % 2027) y (nI sn) v mo z p (ncN (nI sn) v mo p) (k + 1))) ∨ (plN z p (k + 1) ≠ 0 ∧ x = N 153 0)) : msI z y v mo B sn p L (k + 1) (st N2 153 0 x) := by
  obtain ⟨b1, b2, b3, b4, b5⟩ := h
  refine ⟨fun a a1 a2 => ?_, fun c hc => ?_, ?_, fun h => ?_, fun j hj => ?_⟩
  · rw [st_r _ _ _ a2, h2.1 a a1, st_r _ _ _ a2, h1.1 a a1]; exact b1 a a1 a2
  · rw [st_r _ _ _ (by decide), h2.2 c hc, st_r _ _ _ (by decide), h1.2 c hc]; exact b2 c hc
  · rw [st_c _ _ _ (by decide), h2.1 153 (by decide), st_c _ _ _ (by omega), h1.1 153 (by decide)]; exact b3
  · rw [st_s]
    have hz := plN_z hp hk
    rcases hx with ⟨e, hx⟩ | ⟨e, hx⟩
    · rw [hx, hz.mp e]
    · rw [hx]; exact b4 (by have := mt hz.mpr e; omega)
  · rw [st_c _ _ _ (by omega), h2.1 153 (by decide)]
    by_cases e : j = k
    · subst e; rw [st_s]
    · have hne : plN z p j ≠ plN z p k := fun q => e (plN_inj hp (by omega) (by omega) q)
      rw [st_c _ _ _ (show 2 + plN z p j ≠ 2 + plN z p k by omega), h1.1 153 (by decide)]
      exact b5 j (by omega)
theorem ms_f (hp : p < z) (hk : k + 1 = z) (h : msI z y v mo B sn p L k N) : sgN z y v mo B sn p (st N 153 (2 + p) (nI (lsN (ncN (nI sn) v mo p) (sn * snC (stmI z y v mo (nI (B ^ sn % 2027))) B (B ^ sn % 2027) y (nI sn) v mo z p (ncN (nI sn) v mo p) k))) 153) := by
  obtain ⟨b1, b2, b3, b4, b5⟩ := h
  have hkz : z - 1 = k := by omega
  refine ⟨?_, ?_, ?_, fun j hj hne => ?_⟩
  · rw [st_c _ _ _ (by omega)]; exact b3
  · rw [st_c _ _ _ (by omega)]; exact b4 (by omega)
  · rw [st_s, hkz]
  · obtain ⟨i, hi, e⟩ := plN_sur hp hj hne
    rw [st_c _ _ _ (by omega), ← e]; exact b5 i (by omega)
end MS
theorem snC_c {y y' : Nat → Int32} {z : Nat} (hz : 0 < z) (hy : ∀ i, i < z → y i = y' i) (s0 : Int32) (B tg : Nat) (s v mo : Int32) (p w : Nat) : ∀ k, snC s0 B tg y s v mo z p w k = snC s0 B tg y' s v mo z p w k
  | 0 => rfl
  | k + 1 => by unfold snC; rw [snC_c hz hy s0 B tg s v mo p w k, hy _ (plN_lt k hz)]
theorem sg_c {z : Nat} {y y' : Nat → Int32} {v mo : Int32} {B sn p : Nat} {f g : Nat → Int32} (hp : p < z) (hy : ∀ i, i < z → y i = y' i) (hf : ∀ j, j < 2 + z → g j = f j) (h : sgN z y v mo B sn p f) : sgN z y' v mo B sn p g := by
  obtain ⟨h1, h2, h3, h4⟩ := h
  rw [gd_et hy, snC_c (by omega) hy] at h2 h3
  exact ⟨(hf 1 (by omega)).trans h1, (hf 0 (by omega)).trans h2, (hf _ (by omega)).trans h3, fun j hj hne => (hf _ (by omega)).trans (h4 j hj hne)⟩
/-- what signing makes of the model's memory -/
def mgP (M u : Mm) (z : Nat) (y : Nat → Int32) (v mo : Int32) (B sn p : Nat) : Prop :=
  (∀ a, a ≠ 137 → a ≠ 150 → a ≠ 152 → a ≠ 153 → u a = M a) ∧ (∀ c, c ≠ 0 → c ≠ 16 → c ≠ 20 → c ≠ 22 → c ≠ 23 → c ≠ 24 → c ≠ 26 → u 137 c = M 137 c) ∧ u 137 0 = nI 0 ∧ u 137 16 = nI (2 + z) ∧ sgN z y v mo B sn p (u 150)
theorem pos_dl {d e : Nat} (h0 : 0 < d) (hd : d < 1013) (e0 : 0 < e) (he : e < 1013) : 0 < d * e % 1013 := by
  rcases Nat.eq_zero_or_pos (d * e % 1013) with h | h
  · have hp : (List.range 1013).all (fun a => a == 0 || (a ^ 1012 % 1013 == 1)) = true := by decide +kernel
    have f1 := List.all_eq_true.mp hp d (List.mem_range.mpr hd)
    have f2 := List.all_eq_true.mp hp e (List.mem_range.mpr he)
    simp only [Bool.or_eq_true, beq_iff_eq] at f1 f2
    have f1 := f1.resolve_left (by omega)
    have f2 := f2.resolve_left (by omega)
    have h3 : (d * e) ^ 1012 % 1013 = 1 := by rw [Nat.mul_pow, Nat.mul_mod, f1, f2]
    rw [Nat.pow_mod, h, Nat.zero_pow (by decide)] at h3
    exact absurd h3 (by decide)
  · exact h
theorem nz_z {z : Nat} (h : 0 < z) (h6 : z ≤ 6) : nI z ≠ 0 := fun e => by
  have := (nI_eq (show z < 2 ^ 31 by omega) (show 0 < 2 ^ 31 by decide)).mp e
  omega
theorem pl_end {z k : Nat} {x : Int32} (hp : vN x < z) (h6 : z ≤ 6) (hk : k < z) (h0 : 0 ≤ x.toInt) (e : nI (plN z (vN x) k) = x) : k + 1 = z := by
  rcases Nat.lt_or_ge (k + 1) z with h | h
  · have hl := plN_lt (p := vN x) k (show 0 < z by omega)
    have := (o_eq (show plN z (vN x) k < 2 ^ 31 by omega) x).mp e.symm
    have hv : ((vN x : Nat) : Int) = x.toInt := by rw [vN_toInt]; omega
    exact absurd (show plN z (vN x) k = vN x by omega) (plN_ne hp h)
  · omega
theorem pl_go {z k : Nat} {x : Int32} (hp : vN x < z) (h6 : z ≤ 6) (hk : k < z) (h0 : 0 ≤ x.toInt) (e : ¬ nI (plN z (vN x) k) = x) : k + 1 < z := by
  rcases Nat.lt_or_ge (k + 1) z with h | h
  · exact h
  · refine absurd ?_ e
    have hkz : k = z - 1 := by omega
    have h1 := plN_v hp hk
    rw [hkz, show vN x + 1 + (z - 1) = vN x + z by omega, if_neg (by omega), Nat.add_sub_cancel] at h1
    rw [hkz, h1]; exact (x_vN h0).symm

set_option maxHeartbeats 4000000 in
set_option maxRecDepth 100000 in
/-- model sign -/
theorem kX6_sign (l : Launch) {D : va_G} {cy ad : Nat → Nat} {n : Nat} {M : Mm} {A : Nat → Prop} (hD : ∀ M, va_D A (wd cy ad n M ++ [])) (hn : 154 ≤ n) {rg tp pl sec mo : Int32} {rc tc : Nat} {rs : Nat → Nat} (hrc : M 137 5 = nI rc) (hrc8 : rc ≤ 8) (htc : M 137 8 = nI tc) (htc6 : tc ≤ 6) (htb : tbP M) (hmr : mrP rc rs M) (hmb : mbP tc M) : Met l yX6_sign wsX6_sign ({ frames := 3, cells := 0, slots := 0, locals := 67 }) (va_Pc [.ref (ad 137), .int rg, .int tp, .int pl, .int sec, .int mo] (RW D cy (wd cy ad n M ++ []) A)) (va_Qi (S := Mm) (fun r u => (msOK rc tc rs M rg tp pl sec ∧ r = nI ((tB (M 143 (vN tp))) ^ (vN sec) % 2027) ∧ mgP M u (rs (vN rg)) (fun j => M 142 (6 * vN rg + j)) (M 143 (vN tp)) mo (tB (M 143 (vN tp))) (vN sec) (vN pl)) ∨ (¬ msOK rc tc rs M rg tp pl sec ∧ u = (st M 137 0 (nI 1)))) (fun u t => va_P D vwCl (wd cy ad n u ++ []) t.heap) A) 0 0 A := by
  refine Met.ofW (cc := cX6_sign) (maxL := 12) (ret := (some .int)) (by decide +kernel) rfl ?_
  intro p e s m args below meth c s₁ B hml hv
  obtain ⟨rfl, hP, hE, hA⟩ := hv
  have hx := B.exec
  have hb := B.bytes
  have hr := B.returns
  have hts := atoms_spec (ws := wsX6_sign) B.pre
  have hown : s.vm.findClass RX6 = some m.cls := findClass_of_methodNamed B.named
  have hlocks := B.notSynchronized
  have hf13 : (Cond.fieldLink RX6 13 "RingPetitionModel" "exponent" "[I").before #[.ref (ad 137), .int rg, .int tp, .int pl, .int sec, .int mo] s = true := hts _ (by decide +kernel)
  have hf19 : (Cond.fieldLink RX6 19 "RingPetitionModel" "ringSize" "[I").before #[.ref (ad 137), .int rg, .int tp, .int pl, .int sec, .int mo] s = true := hts _ (by decide +kernel)
  have hf22 : (Cond.fieldLink RX6 22 "RingPetitionModel" "ringKeys" "[I").before #[.ref (ad 137), .int rg, .int tp, .int pl, .int sec, .int mo] s = true := hts _ (by decide +kernel)
  have hf47 : (Cond.fieldLink RX6 47 "RingPetitionModel" "draftSize" "I").before #[.ref (ad 137), .int rg, .int tp, .int pl, .int sec, .int mo] s = true := hts _ (by decide +kernel)
  have hf51 : (Cond.fieldLink RX6 51 "RingPetitionModel" "drafted" "[I").before #[.ref (ad 137), .int rg, .int tp, .int pl, .int sec, .int mo] s = true := hts _ (by decide +kernel)
  have hf60 : (Cond.fieldLink RX6 60 "RingPetitionModel" "numbers" "[I").before #[.ref (ad 137), .int rg, .int tp, .int pl, .int sec, .int mo] s = true := hts _ (by decide +kernel)
  have hf63 : (Cond.fieldLink RX6 63 "RingPetitionModel" "thrown" "I").before #[.ref (ad 137), .int rg, .int tp, .int pl, .int sec, .int mo] s = true := hts _ (by decide +kernel)
  have hf7 : (Cond.fieldLink RX6 7 "RingPetitionModel" "power" "[I").before #[.ref (ad 137), .int rg, .int tp, .int pl, .int sec, .int mo] s = true := hts _ (by decide +kernel)
  have hf78 : (Cond.fieldLink RX6 78 "RingPetitionModel" "n" "I").before #[.ref (ad 137), .int rg, .int tp, .int pl, .int sec, .int mo] s = true := hts _ (by decide +kernel)
  have hf95 : (Cond.fieldLink RX6 95 "RingPetitionModel" "base" "I").before #[.ref (ad 137), .int rg, .int tp, .int pl, .int sec, .int mo] s = true := hts _ (by decide +kernel)
  have hin_RX6 : ∀ w ∈ u_ws RX6 TX6 27, w ∈ wsX6_sign := by decide +kernel
  have hS : va_S A s.heap s.heap [] := va_S.rf
  have hl := lv_entry ([.ref (ad 137), .int rg, .int tp, .int pl, .int sec, .int mo]) (n := 12) (Nat.le_of_ble_eq_true rfl)
  rw [lg_entry_eq]
  generalize (lg_sl ([.ref (ad 137), .int rg, .int tp, .int pl, .int sec, .int mo]) ++ List.replicate (12 - (lg_sl ([.ref (ad 137), .int rg, .int tp, .int pl, .int sec, .int mo])).length) Slot.unset).toArray = ls at hl ⊢
  have hl : lv_has ls 12 [(0, .ref (ad 137)), (1, .int rg), (2, .int tp), (3, .int pl), (4, .int sec), (5, .int mo)] := hl
  refine lv_aload_n hx hb dX6_sign_0 rfl (lv_at hl 0 rfl) ?_
  refine lv_iload_n hx hb dX6_sign_1 rfl (lv_at hl 1 rfl) ?_
  refine vp_callSi (W.runV (As := [.int rg]) (rest := []) ⟨hx, hb, hml, hown, hts⟩ (kX6_noRing l hn hrc hrc8) (cwV 1 hts gX6_sign_X6_noRing rfl rfl rfl (by decide +kernel) ⟨Nat.le_of_ble_eq_true rfl, Nat.le_of_ble_eq_true rfl⟩) (ro_pv (ci := 5) (q := (RX6, TX6, 27)) hE hP rfl (wd_at (M := M) (show 137 < n by omega) ((g_137 cy ad) _))) rfl rfl hl.1 rfl (lv_room (Nat.le_of_ble_eq_true rfl)) dX6_sign_2 ⟨Nat.le_of_ble_eq_true rfl, Nat.le_of_ble_eq_true rfl⟩) (fun r_2 hr_2 => ?_)
  rcases hr_2 with ⟨hq_2, rfl⟩ | ⟨hq_2, rfl⟩
  · refine lv_if_ne (tgt := 56) hx hb dX6_sign_5 (by decide) (fun c_5 => ?_) (fun c_5 => ?_)
    · have c_5 := mt (o_eq0 _).mpr c_5
      refine lv_iconst (v := (nI 1)) hx hb dX6_sign_56 (by decide) ?_
      refine lv_goto (tgt := 61) hx hb dX6_sign_57 (by decide) ?_
      refine lv_istore (lv' := [(6, .int (nI 1)), (0, .ref (ad 137)), (1, .int rg), (2, .int tp), (3, .int pl), (4, .int sec), (5, .int mo)]) hx hb dX6_sign_61 hl (by decide) rfl (fun ls hl => ?_)
      refine lv_iload hx hb dX6_sign_63 (lv_at hl 0 rfl) ?_
      refine lv_if_ne (tgt := 89) hx hb dX6_sign_65 (by decide) (fun c_65 => ?_) (fun c_65 => ?_)
      · have c_65 := mt (o_eq0 _).mpr c_65
        rw [nI_toInt (by omega)] at c_65
        refine lv_iconst (v := (nI 1)) hx hb dX6_sign_89 (by decide) ?_
        refine lv_goto (tgt := 94) hx hb dX6_sign_90 (by decide) ?_
        refine lv_istore (lv' := [(6, .int (nI 1)), (0, .ref (ad 137)), (1, .int rg), (2, .int tp), (3, .int pl), (4, .int sec), (5, .int mo)]) hx hb dX6_sign_94 hl (by decide) rfl (fun ls hl => ?_)
        refine lv_aload_n hx hb dX6_sign_96 rfl (lv_at hl 1 rfl) ?_
        refine lv_iload hx hb dX6_sign_97 (lv_at hl 0 rfl) ?_
        refine lv_if_eq (tgt := 106) hx hb dX6_sign_99 (by decide) (fun c_99 => ?_) (fun c_99 => ?_)
        · exact absurd c_99 (by decide)
        · have c_99 := mt (o_eq0 _).mpr c_99
          rw [nI_toInt (by omega)] at c_99
          refine lv_iconst (v := (nI 1)) hx hb dX6_sign_102 (by decide) ?_
          refine lv_goto (tgt := 107) hx hb dX6_sign_103 (by decide) ?_
          refine wr_put (cy := cy) (ad := ad) (ex := []) (ci := 5) (C := RX6) (T := TX6) (N := 27) (ty := .int) hx hb hts hin_RX6 tyX6 tyX6_ok nmX6 hown hE.1 hP hD hS 137 (show 137 < n by omega) ((g_137 cy ad) _) rfl 0 (by decide) hf63 (fun _ h9 => h9) rfl (by decide +kernel) rfl rfl (by simp) (((g_137 cy ad) _).trans (by simp [st_at])) dX6_sign_107 (fun H locs hP hS => ?_)
          refine lv_aload_n hx hb dX6_sign_110 rfl (lv_at hl 1 rfl) ?_
          refine va_get (D := D) (ci := 5) (v := .int ((st M 137 0 (nI 1)) 137 0)) (C := RX6) (T := TX6) (N := 27) hx hb hts hin_RX6 hown hE.1 hP 137 (wd_at (M := (st M 137 0 (nI 1))) (show 137 < n by omega) ((g_137 cy ad) _)) rfl 0 (by decide) hf63 (fun _ h9 => h9) rfl dX6_sign_111 ?_
          refine wr_top (y := (nI 1)) (st_s _ _ _ _) ?_
          refine lv_if_eq (tgt := 119) hx hb dX6_sign_114 (by decide) (fun c_114 => ?_) (fun c_114 => ?_)
          · exact absurd c_114 (by decide)
          · have c_114 := mt (o_eq0 _).mpr c_114
            rw [nI_toInt (by omega)] at c_114
            refine lv_iconst (v := (nI 0)) hx hb dX6_sign_117 (by decide) ?_
            exact W.iret (v := (nI 0)) hx hb hr (fun t ht hW => ⟨⟨(nI 0), (st M 137 0 (nI 1)), rfl, Or.inr ⟨fun h => by have h1 := h.1; have h2 := h.2.1; have h3 := h.2.2.1; have h4 := h.2.2.2.1; omega, rfl⟩, (by show va_P D vwCl _ t.heap; rw [ht]; exact hP)⟩, hS.F ht⟩) hS.2.2 dX6_sign_118
      · exact absurd c_65 (by decide)
    · exact absurd c_5 (by decide)
  · refine lv_if_ne (tgt := 56) hx hb dX6_sign_5 (by decide) (fun c_5 => ?_) (fun c_5 => ?_)
    · exact absurd c_5 (by decide)
    · have c_5 := (o_eq0 _).mp c_5
      refine lv_aload_n hx hb dX6_sign_8 rfl (lv_at hl 0 rfl) ?_
      refine lv_iload_n hx hb dX6_sign_9 rfl (lv_at hl 2 rfl) ?_
      refine vp_callSi (W.runV (As := [.int tp]) (rest := []) ⟨hx, hb, hml, hown, hts⟩ (kX6_noTopic l hn htc (by omega)) (cwV 1 hts gX6_sign_X6_noTopic rfl rfl rfl (by decide +kernel) ⟨Nat.le_of_ble_eq_true rfl, Nat.le_of_ble_eq_true rfl⟩) (ro_pv (ci := 5) (q := (RX6, TX6, 27)) hE hP rfl (wd_at (M := M) (show 137 < n by omega) ((g_137 cy ad) _))) rfl rfl hl.1 rfl (lv_room (Nat.le_of_ble_eq_true rfl)) dX6_sign_10 ⟨Nat.le_of_ble_eq_true rfl, Nat.le_of_ble_eq_true rfl⟩) (fun r_10 hr_10 => ?_)
      rcases hr_10 with ⟨hq_10, rfl⟩ | ⟨hq_10, rfl⟩
      · refine lv_if_ne (tgt := 56) hx hb dX6_sign_13 (by decide) (fun c_13 => ?_) (fun c_13 => ?_)
        · have c_13 := mt (o_eq0 _).mpr c_13
          refine lv_iconst (v := (nI 1)) hx hb dX6_sign_56 (by decide) ?_
          refine lv_goto (tgt := 61) hx hb dX6_sign_57 (by decide) ?_
          refine lv_istore (lv' := [(6, .int (nI 1)), (0, .ref (ad 137)), (1, .int rg), (2, .int tp), (3, .int pl), (4, .int sec), (5, .int mo)]) hx hb dX6_sign_61 hl (by decide) rfl (fun ls hl => ?_)
          refine lv_iload hx hb dX6_sign_63 (lv_at hl 0 rfl) ?_
          refine lv_if_ne (tgt := 89) hx hb dX6_sign_65 (by decide) (fun c_65 => ?_) (fun c_65 => ?_)
          · have c_65 := mt (o_eq0 _).mpr c_65
            rw [nI_toInt (by omega)] at c_65
            refine lv_iconst (v := (nI 1)) hx hb dX6_sign_89 (by decide) ?_
            refine lv_goto (tgt := 94) hx hb dX6_sign_90 (by decide) ?_
            refine lv_istore (lv' := [(6, .int (nI 1)), (0, .ref (ad 137)), (1, .int rg), (2, .int tp), (3, .int pl), (4, .int sec), (5, .int mo)]) hx hb dX6_sign_94 hl (by decide) rfl (fun ls hl => ?_)
            refine lv_aload_n hx hb dX6_sign_96 rfl (lv_at hl 1 rfl) ?_
            refine lv_iload hx hb dX6_sign_97 (lv_at hl 0 rfl) ?_
            refine lv_if_eq (tgt := 106) hx hb dX6_sign_99 (by decide) (fun c_99 => ?_) (fun c_99 => ?_)
            · exact absurd c_99 (by decide)
            · have c_99 := mt (o_eq0 _).mpr c_99
              rw [nI_toInt (by omega)] at c_99
              refine lv_iconst (v := (nI 1)) hx hb dX6_sign_102 (by decide) ?_
              refine lv_goto (tgt := 107) hx hb dX6_sign_103 (by decide) ?_
              refine wr_put (cy := cy) (ad := ad) (ex := []) (ci := 5) (C := RX6) (T := TX6) (N := 27) (ty := .int) hx hb hts hin_RX6 tyX6 tyX6_ok nmX6 hown hE.1 hP hD hS 137 (show 137 < n by omega) ((g_137 cy ad) _) rfl 0 (by decide) hf63 (fun _ h9 => h9) rfl (by decide +kernel) rfl rfl (by simp) (((g_137 cy ad) _).trans (by simp [st_at])) dX6_sign_107 (fun H locs hP hS => ?_)
              refine lv_aload_n hx hb dX6_sign_110 rfl (lv_at hl 1 rfl) ?_
              refine va_get (D := D) (ci := 5) (v := .int ((st M 137 0 (nI 1)) 137 0)) (C := RX6) (T := TX6) (N := 27) hx hb hts hin_RX6 hown hE.1 hP 137 (wd_at (M := (st M 137 0 (nI 1))) (show 137 < n by omega) ((g_137 cy ad) _)) rfl 0 (by decide) hf63 (fun _ h9 => h9) rfl dX6_sign_111 ?_
              refine wr_top (y := (nI 1)) (st_s _ _ _ _) ?_
              refine lv_if_eq (tgt := 119) hx hb dX6_sign_114 (by decide) (fun c_114 => ?_) (fun c_114 => ?_)
              · exact absurd c_114 (by decide)
              · have c_114 := mt (o_eq0 _).mpr c_114
                rw [nI_toInt (by omega)] at c_114
                refine lv_iconst (v := (nI 0)) hx hb dX6_sign_117 (by decide) ?_
                exact W.iret (v := (nI 0)) hx hb hr (fun t ht hW => ⟨⟨(nI 0), (st M 137 0 (nI 1)), rfl, Or.inr ⟨fun h => by have h1 := h.1; have h2 := h.2.1; have h3 := h.2.2.1; have h4 := h.2.2.2.1; omega, rfl⟩, (by show va_P D vwCl _ t.heap; rw [ht]; exact hP)⟩, hS.F ht⟩) hS.2.2 dX6_sign_118
          · exact absurd c_65 (by decide)
        · exact absurd c_13 (by decide)
      · refine lv_if_ne (tgt := 56) hx hb dX6_sign_13 (by decide) (fun c_13 => ?_) (fun c_13 => ?_)
        · exact absurd c_13 (by decide)
        · have c_13 := (o_eq0 _).mp c_13
          refine lv_iload_n hx hb dX6_sign_16 rfl (lv_at hl 3 rfl) ?_
          refine lv_if_lt (tgt := 56) hx hb dX6_sign_17 (by decide) (fun c_17 => ?_) (fun c_17 => ?_)
          · have c_17 := (o_lt0 _).mp c_17
            refine lv_iconst (v := (nI 1)) hx hb dX6_sign_56 (by decide) ?_
            refine lv_goto (tgt := 61) hx hb dX6_sign_57 (by decide) ?_
            refine lv_istore (lv' := [(6, .int (nI 1)), (0, .ref (ad 137)), (1, .int rg), (2, .int tp), (3, .int pl), (4, .int sec), (5, .int mo)]) hx hb dX6_sign_61 hl (by decide) rfl (fun ls hl => ?_)
            refine lv_iload hx hb dX6_sign_63 (lv_at hl 0 rfl) ?_
            refine lv_if_ne (tgt := 89) hx hb dX6_sign_65 (by decide) (fun c_65 => ?_) (fun c_65 => ?_)
            · have c_65 := mt (o_eq0 _).mpr c_65
              rw [nI_toInt (by omega)] at c_65
              refine lv_iconst (v := (nI 1)) hx hb dX6_sign_89 (by decide) ?_
              refine lv_goto (tgt := 94) hx hb dX6_sign_90 (by decide) ?_
              refine lv_istore (lv' := [(6, .int (nI 1)), (0, .ref (ad 137)), (1, .int rg), (2, .int tp), (3, .int pl), (4, .int sec), (5, .int mo)]) hx hb dX6_sign_94 hl (by decide) rfl (fun ls hl => ?_)
              refine lv_aload_n hx hb dX6_sign_96 rfl (lv_at hl 1 rfl) ?_
              refine lv_iload hx hb dX6_sign_97 (lv_at hl 0 rfl) ?_
              refine lv_if_eq (tgt := 106) hx hb dX6_sign_99 (by decide) (fun c_99 => ?_) (fun c_99 => ?_)
              · exact absurd c_99 (by decide)
              · have c_99 := mt (o_eq0 _).mpr c_99
                rw [nI_toInt (by omega)] at c_99
                refine lv_iconst (v := (nI 1)) hx hb dX6_sign_102 (by decide) ?_
                refine lv_goto (tgt := 107) hx hb dX6_sign_103 (by decide) ?_
                refine wr_put (cy := cy) (ad := ad) (ex := []) (ci := 5) (C := RX6) (T := TX6) (N := 27) (ty := .int) hx hb hts hin_RX6 tyX6 tyX6_ok nmX6 hown hE.1 hP hD hS 137 (show 137 < n by omega) ((g_137 cy ad) _) rfl 0 (by decide) hf63 (fun _ h9 => h9) rfl (by decide +kernel) rfl rfl (by simp) (((g_137 cy ad) _).trans (by simp [st_at])) dX6_sign_107 (fun H locs hP hS => ?_)
                refine lv_aload_n hx hb dX6_sign_110 rfl (lv_at hl 1 rfl) ?_
                refine va_get (D := D) (ci := 5) (v := .int ((st M 137 0 (nI 1)) 137 0)) (C := RX6) (T := TX6) (N := 27) hx hb hts hin_RX6 hown hE.1 hP 137 (wd_at (M := (st M 137 0 (nI 1))) (show 137 < n by omega) ((g_137 cy ad) _)) rfl 0 (by decide) hf63 (fun _ h9 => h9) rfl dX6_sign_111 ?_
                refine wr_top (y := (nI 1)) (st_s _ _ _ _) ?_
                refine lv_if_eq (tgt := 119) hx hb dX6_sign_114 (by decide) (fun c_114 => ?_) (fun c_114 => ?_)
                · exact absurd c_114 (by decide)
                · have c_114 := mt (o_eq0 _).mpr c_114
                  rw [nI_toInt (by omega)] at c_114
                  refine lv_iconst (v := (nI 0)) hx hb dX6_sign_117 (by decide) ?_
                  exact W.iret (v := (nI 0)) hx hb hr (fun t ht hW => ⟨⟨(nI 0), (st M 137 0 (nI 1)), rfl, Or.inr ⟨fun h => by have h1 := h.1; have h2 := h.2.1; have h3 := h.2.2.1; have h4 := h.2.2.2.1; omega, rfl⟩, (by show va_P D vwCl _ t.heap; rw [ht]; exact hP)⟩, hS.F ht⟩) hS.2.2 dX6_sign_118
            · exact absurd c_65 (by decide)
          · have c_17 := mt (o_lt0 _).mpr c_17
            refine lv_iload_n hx hb dX6_sign_20 rfl (lv_at hl 3 rfl) ?_
            refine lv_aload_n hx hb dX6_sign_21 rfl (lv_at hl 0 rfl) ?_
            refine lv_iload_n hx hb dX6_sign_22 rfl (lv_at hl 1 rfl) ?_
            refine vp_callSi (W.runV (As := [.int rg]) (rest := [.int pl]) ⟨hx, hb, hml, hown, hts⟩ (kX6_noRing l hn hrc hrc8) (cwV 1 hts gX6_sign_X6_noRing rfl rfl rfl (by decide +kernel) ⟨Nat.le_of_ble_eq_true rfl, Nat.le_of_ble_eq_true rfl⟩) (ro_pv (ci := 5) (q := (RX6, TX6, 27)) hE hP rfl (wd_at (M := M) (show 137 < n by omega) ((g_137 cy ad) _))) rfl rfl hl.1 rfl (lv_room (Nat.le_of_ble_eq_true rfl)) dX6_sign_23 ⟨Nat.le_of_ble_eq_true rfl, Nat.le_of_ble_eq_true rfl⟩) (fun r_23 hr_23 => ?_)
            rcases hr_23 with ⟨hq_23, rfl⟩ | ⟨hq_23, rfl⟩
            · exfalso; omega
            · refine lv_if_eq (tgt := 33) hx hb dX6_sign_26 (by decide) (fun c_26 => ?_) (fun c_26 => ?_)
              · have c_26 := (o_eq0 _).mp c_26
                have hr6 : vN rg < rc := by rw [vN_toInt]; omega
                have ht6 : vN tp < tc := by rw [vN_toInt]; omega
                obtain ⟨hm3, hm4, hm5⟩ := hmr _ hr6
                refine lv_aload_n hx hb dX6_sign_33 rfl (lv_at hl 0 rfl) ?_
                refine va_get (D := D) (ci := 5) (v := .ref (ad 141)) (C := RX6) (T := TX6) (N := 27) hx hb hts hin_RX6 hown hE.1 hP 137 (wd_at (M := M) (show 137 < n by omega) ((g_137 cy ad) _)) rfl 6 (by decide) hf19 (fun _ h9 => h9) rfl dX6_sign_34 ?_
                refine lv_iload_n hx hb dX6_sign_37 rfl (lv_at hl 1 rfl) ?_
                refine wr_ald (cy := cy) (ad := ad) (ex := []) hx hb hE.1 hP 141 (show 141 < n by omega) ((g_141 cy ad) _) (vN rg) (x_vN (by omega)) (by rw [vN_toInt]; omega) (by decide) dX6_sign_38 ?_
                refine wr_top (y := (nI (rs (vN rg)))) hm3 ?_
                refine lv_icmp_ge (tgt := 56) hx hb dX6_sign_39 (by decide) (fun c_39 => ?_) (fun c_39 => ?_)
                · have c_39 := (o_le (by omega) _).mp c_39
                  refine lv_iconst (v := (nI 1)) hx hb dX6_sign_56 (by decide) ?_
                  refine lv_goto (tgt := 61) hx hb dX6_sign_57 (by decide) ?_
                  refine lv_istore (lv' := [(6, .int (nI 1)), (0, .ref (ad 137)), (1, .int rg), (2, .int tp), (3, .int pl), (4, .int sec), (5, .int mo)]) hx hb dX6_sign_61 hl (by decide) rfl (fun ls hl => ?_)
                  refine lv_iload hx hb dX6_sign_63 (lv_at hl 0 rfl) ?_
                  refine lv_if_ne (tgt := 89) hx hb dX6_sign_65 (by decide) (fun c_65 => ?_) (fun c_65 => ?_)
                  · have c_65 := mt (o_eq0 _).mpr c_65
                    rw [nI_toInt (by omega)] at c_65
                    refine lv_iconst (v := (nI 1)) hx hb dX6_sign_89 (by decide) ?_
                    refine lv_goto (tgt := 94) hx hb dX6_sign_90 (by decide) ?_
                    refine lv_istore (lv' := [(6, .int (nI 1)), (0, .ref (ad 137)), (1, .int rg), (2, .int tp), (3, .int pl), (4, .int sec), (5, .int mo)]) hx hb dX6_sign_94 hl (by decide) rfl (fun ls hl => ?_)
                    refine lv_aload_n hx hb dX6_sign_96 rfl (lv_at hl 1 rfl) ?_
                    refine lv_iload hx hb dX6_sign_97 (lv_at hl 0 rfl) ?_
                    refine lv_if_eq (tgt := 106) hx hb dX6_sign_99 (by decide) (fun c_99 => ?_) (fun c_99 => ?_)
                    · exact absurd c_99 (by decide)
                    · have c_99 := mt (o_eq0 _).mpr c_99
                      rw [nI_toInt (by omega)] at c_99
                      refine lv_iconst (v := (nI 1)) hx hb dX6_sign_102 (by decide) ?_
                      refine lv_goto (tgt := 107) hx hb dX6_sign_103 (by decide) ?_
                      refine wr_put (cy := cy) (ad := ad) (ex := []) (ci := 5) (C := RX6) (T := TX6) (N := 27) (ty := .int) hx hb hts hin_RX6 tyX6 tyX6_ok nmX6 hown hE.1 hP hD hS 137 (show 137 < n by omega) ((g_137 cy ad) _) rfl 0 (by decide) hf63 (fun _ h9 => h9) rfl (by decide +kernel) rfl rfl (by simp) (((g_137 cy ad) _).trans (by simp [st_at])) dX6_sign_107 (fun H locs hP hS => ?_)
                      refine lv_aload_n hx hb dX6_sign_110 rfl (lv_at hl 1 rfl) ?_
                      refine va_get (D := D) (ci := 5) (v := .int ((st M 137 0 (nI 1)) 137 0)) (C := RX6) (T := TX6) (N := 27) hx hb hts hin_RX6 hown hE.1 hP 137 (wd_at (M := (st M 137 0 (nI 1))) (show 137 < n by omega) ((g_137 cy ad) _)) rfl 0 (by decide) hf63 (fun _ h9 => h9) rfl dX6_sign_111 ?_
                      refine wr_top (y := (nI 1)) (st_s _ _ _ _) ?_
                      refine lv_if_eq (tgt := 119) hx hb dX6_sign_114 (by decide) (fun c_114 => ?_) (fun c_114 => ?_)
                      · exact absurd c_114 (by decide)
                      · have c_114 := mt (o_eq0 _).mpr c_114
                        rw [nI_toInt (by omega)] at c_114
                        refine lv_iconst (v := (nI 0)) hx hb dX6_sign_117 (by decide) ?_
                        exact W.iret (v := (nI 0)) hx hb hr (fun t ht hW => ⟨⟨(nI 0), (st M 137 0 (nI 1)), rfl, Or.inr ⟨fun h => by have h1 := h.1; have h2 := h.2.1; have h3 := h.2.2.1; have h4 := h.2.2.2.1; omega, rfl⟩, (by show va_P D vwCl _ t.heap; rw [ht]; exact hP)⟩, hS.F ht⟩) hS.2.2 dX6_sign_118
                  · exact absurd c_65 (by decide)
                · have c_39 := mt (o_le (by omega) _).mpr c_39
                  refine lv_iload hx hb dX6_sign_42 (lv_at hl 4 rfl) ?_
                  refine lv_iconst (v := (nI 1)) hx hb dX6_sign_44 (by decide) ?_
                  refine lv_icmp_lt (tgt := 56) hx hb dX6_sign_45 (by decide) (fun c_45 => ?_) (fun c_45 => ?_)
                  · have c_45 := (o_gt (by omega) _).mp c_45
                    refine lv_iconst (v := (nI 1)) hx hb dX6_sign_56 (by decide) ?_
                    refine lv_goto (tgt := 61) hx hb dX6_sign_57 (by decide) ?_
                    refine lv_istore (lv' := [(6, .int (nI 1)), (0, .ref (ad 137)), (1, .int rg), (2, .int tp), (3, .int pl), (4, .int sec), (5, .int mo)]) hx hb dX6_sign_61 hl (by decide) rfl (fun ls hl => ?_)
                    refine lv_iload hx hb dX6_sign_63 (lv_at hl 0 rfl) ?_
                    refine lv_if_ne (tgt := 89) hx hb dX6_sign_65 (by decide) (fun c_65 => ?_) (fun c_65 => ?_)
                    · have c_65 := mt (o_eq0 _).mpr c_65
                      rw [nI_toInt (by omega)] at c_65
                      refine lv_iconst (v := (nI 1)) hx hb dX6_sign_89 (by decide) ?_
                      refine lv_goto (tgt := 94) hx hb dX6_sign_90 (by decide) ?_
                      refine lv_istore (lv' := [(6, .int (nI 1)), (0, .ref (ad 137)), (1, .int rg), (2, .int tp), (3, .int pl), (4, .int sec), (5, .int mo)]) hx hb dX6_sign_94 hl (by decide) rfl (fun ls hl => ?_)
                      refine lv_aload_n hx hb dX6_sign_96 rfl (lv_at hl 1 rfl) ?_
                      refine lv_iload hx hb dX6_sign_97 (lv_at hl 0 rfl) ?_
                      refine lv_if_eq (tgt := 106) hx hb dX6_sign_99 (by decide) (fun c_99 => ?_) (fun c_99 => ?_)
                      · exact absurd c_99 (by decide)
                      · have c_99 := mt (o_eq0 _).mpr c_99
                        rw [nI_toInt (by omega)] at c_99
                        refine lv_iconst (v := (nI 1)) hx hb dX6_sign_102 (by decide) ?_
                        refine lv_goto (tgt := 107) hx hb dX6_sign_103 (by decide) ?_
                        refine wr_put (cy := cy) (ad := ad) (ex := []) (ci := 5) (C := RX6) (T := TX6) (N := 27) (ty := .int) hx hb hts hin_RX6 tyX6 tyX6_ok nmX6 hown hE.1 hP hD hS 137 (show 137 < n by omega) ((g_137 cy ad) _) rfl 0 (by decide) hf63 (fun _ h9 => h9) rfl (by decide +kernel) rfl rfl (by simp) (((g_137 cy ad) _).trans (by simp [st_at])) dX6_sign_107 (fun H locs hP hS => ?_)
                        refine lv_aload_n hx hb dX6_sign_110 rfl (lv_at hl 1 rfl) ?_
                        refine va_get (D := D) (ci := 5) (v := .int ((st M 137 0 (nI 1)) 137 0)) (C := RX6) (T := TX6) (N := 27) hx hb hts hin_RX6 hown hE.1 hP 137 (wd_at (M := (st M 137 0 (nI 1))) (show 137 < n by omega) ((g_137 cy ad) _)) rfl 0 (by decide) hf63 (fun _ h9 => h9) rfl dX6_sign_111 ?_
                        refine wr_top (y := (nI 1)) (st_s _ _ _ _) ?_
                        refine lv_if_eq (tgt := 119) hx hb dX6_sign_114 (by decide) (fun c_114 => ?_) (fun c_114 => ?_)
                        · exact absurd c_114 (by decide)
                        · have c_114 := mt (o_eq0 _).mpr c_114
                          rw [nI_toInt (by omega)] at c_114
                          refine lv_iconst (v := (nI 0)) hx hb dX6_sign_117 (by decide) ?_
                          exact W.iret (v := (nI 0)) hx hb hr (fun t ht hW => ⟨⟨(nI 0), (st M 137 0 (nI 1)), rfl, Or.inr ⟨fun h => by have h1 := h.1; have h2 := h.2.1; have h3 := h.2.2.1; have h4 := h.2.2.2.1; omega, rfl⟩, (by show va_P D vwCl _ t.heap; rw [ht]; exact hP)⟩, hS.F ht⟩) hS.2.2 dX6_sign_118
                    · exact absurd c_65 (by decide)
                  · have c_45 := mt (o_gt (by omega) _).mpr c_45
                    refine lv_iload hx hb dX6_sign_48 (lv_at hl 4 rfl) ?_
                    refine lv_sipush (v := (nI 1013)) hx hb dX6_sign_50 (by decide) ?_
                    refine lv_icmp_lt (tgt := 60) hx hb dX6_sign_53 (by decide) (fun c_53 => ?_) (fun c_53 => ?_)
                    · have c_53 := (o_gt (by omega) _).mp c_53
                      refine lv_iconst (v := (nI 0)) hx hb dX6_sign_60 (by decide) ?_
                      refine lv_istore (lv' := [(6, .int (nI 0)), (0, .ref (ad 137)), (1, .int rg), (2, .int tp), (3, .int pl), (4, .int sec), (5, .int mo)]) hx hb dX6_sign_61 hl (by decide) rfl (fun ls hl => ?_)
                      refine lv_iload hx hb dX6_sign_63 (lv_at hl 0 rfl) ?_
                      refine lv_if_ne (tgt := 89) hx hb dX6_sign_65 (by decide) (fun c_65 => ?_) (fun c_65 => ?_)
                      · exact absurd c_65 (by decide)
                      · have c_65 := (o_eq0 _).mp c_65
                        rw [nI_toInt (by omega)] at c_65
                        refine lv_aload_n hx hb dX6_sign_68 rfl (lv_at hl 1 rfl) ?_
                        refine va_get (D := D) (ci := 5) (v := .ref (ad 138)) (C := RX6) (T := TX6) (N := 27) hx hb hts hin_RX6 hown hE.1 hP 137 (wd_at (M := M) (show 137 < n by omega) ((g_137 cy ad) _)) rfl 1 (by decide) hf7 (fun _ h9 => h9) rfl dX6_sign_69 ?_
                        refine lv_iload hx hb dX6_sign_72 (lv_at hl 5 rfl) ?_
                        refine wr_ald (cy := cy) (ad := ad) (ex := []) hx hb hE.1 hP 138 (show 138 < n by omega) ((g_138 cy ad) _) (vN sec) (x_vN (by omega)) (by rw [vN_toInt]; omega) (by decide) dX6_sign_74 ?_
                        refine wr_top (y := (nI (4 ^ vN sec % 2027))) (htb.1 _ (by rw [vN_toInt]; omega)) ?_
                        refine lv_aload_n hx hb dX6_sign_75 rfl (lv_at hl 1 rfl) ?_
                        refine va_get (D := D) (ci := 5) (v := .ref (ad 142)) (C := RX6) (T := TX6) (N := 27) hx hb hts hin_RX6 hown hE.1 hP 137 (wd_at (M := M) (show 137 < n by omega) ((g_137 cy ad) _)) rfl 7 (by decide) hf22 (fun _ h9 => h9) rfl dX6_sign_76 ?_
                        refine lv_bipush (v := (nI 6)) hx hb dX6_sign_79 (by decide) ?_
                        refine lv_iload_n hx hb dX6_sign_81 rfl (lv_at hl 2 rfl) ?_
                        refine lv_imul hx hb dX6_sign_82 ?_
                        refine wr_top (y := (nI (6 * vN rg))) (xm_vN 6 (by omega)) ?_
                        refine lv_iload_n hx hb dX6_sign_83 rfl (lv_at hl 4 rfl) ?_
                        refine lv_iadd hx hb dX6_sign_84 ?_
                        refine wr_top (y := (nI (6 * vN rg + vN pl))) (xa_vN _ (by omega)) ?_
                        refine wr_ald (cy := cy) (ad := ad) (ex := []) hx hb hE.1 hP 142 (show 142 < n by omega) ((g_142 cy ad) _) (6 * vN rg + vN pl) rfl (by rw [vN_toInt pl]; omega) (by decide) dX6_sign_85 ?_
                        refine lv_icmp_eq (tgt := 93) hx hb dX6_sign_86 (by decide) (fun c_86 => ?_) (fun c_86 => ?_)
                        · refine lv_iconst (v := (nI 0)) hx hb dX6_sign_93 (by decide) ?_
                          refine lv_istore (lv' := [(6, .int (nI 0)), (0, .ref (ad 137)), (1, .int rg), (2, .int tp), (3, .int pl), (4, .int sec), (5, .int mo)]) hx hb dX6_sign_94 hl (by decide) rfl (fun ls hl => ?_)
                          refine lv_aload_n hx hb dX6_sign_96 rfl (lv_at hl 1 rfl) ?_
                          refine lv_iload hx hb dX6_sign_97 (lv_at hl 0 rfl) ?_
                          refine lv_if_eq (tgt := 106) hx hb dX6_sign_99 (by decide) (fun c_99 => ?_) (fun c_99 => ?_)
                          · have c_99 := (o_eq0 _).mp c_99
                            rw [nI_toInt (by omega)] at c_99
                            refine lv_iconst (v := (nI 0)) hx hb dX6_sign_106 (by decide) ?_
                            refine wr_put (cy := cy) (ad := ad) (ex := []) (ci := 5) (C := RX6) (T := TX6) (N := 27) (ty := .int) hx hb hts hin_RX6 tyX6 tyX6_ok nmX6 hown hE.1 hP hD hS 137 (show 137 < n by omega) ((g_137 cy ad) _) rfl 0 (by decide) hf63 (fun _ h9 => h9) rfl (by decide +kernel) rfl rfl (by simp) (((g_137 cy ad) _).trans (by simp [st_at])) dX6_sign_107 (fun H locs hP hS => ?_)
                            refine lv_aload_n hx hb dX6_sign_110 rfl (lv_at hl 1 rfl) ?_
                            refine va_get (D := D) (ci := 5) (v := .int ((st M 137 0 (nI 0)) 137 0)) (C := RX6) (T := TX6) (N := 27) hx hb hts hin_RX6 hown hE.1 hP 137 (wd_at (M := (st M 137 0 (nI 0))) (show 137 < n by omega) ((g_137 cy ad) _)) rfl 0 (by decide) hf63 (fun _ h9 => h9) rfl dX6_sign_111 ?_
                            refine wr_top (y := (nI 0)) (st_s _ _ _ _) ?_
                            refine lv_if_eq (tgt := 119) hx hb dX6_sign_114 (by decide) (fun c_114 => ?_) (fun c_114 => ?_)
                            · have c_114 := (o_eq0 _).mp c_114
                              rw [nI_toInt (by omega)] at c_114
                              have hok : msOK rc tc rs M rg tp pl sec := ⟨⟨by omega, by omega⟩, ⟨by omega, by omega⟩, ⟨by omega, by omega⟩, ⟨by omega, by omega⟩, c_86⟩
                              have hmbt := hmb _ ht6
                              have hbe := tB_el (M 143 (vN tp))
                              have hbd := g_dl hbe
                              have hbl := (elt_lt hbe).2.1
                              have hpz : vN pl < (rs (vN rg)) := by rw [vN_toInt pl]; omega
                              have hsn : vN sec < 1013 := by rw [vN_toInt]; omega
                              have hse : sec = nI (vN sec) := x_vN (by omega)
                              have htg : eltN ((tB (M 143 (vN tp))) ^ (vN sec) % 2027) = true := by rw [← dl_pw hbe]; refine g_el ?_ (Nat.mod_lt _ (by decide)); exact pos_dl hbd.1 hbd.2.1 (by rw [vN_toInt]; omega) hsn
                              have htl : ((tB (M 143 (vN tp))) ^ (vN sec) % 2027) < 2027 := Nat.mod_lt _ (by decide)
                              refine lv_aload_n hx hb dX6_sign_119 rfl (lv_at hl 1 rfl) ?_
                              refine lv_iload_n hx hb dX6_sign_120 rfl (lv_at hl 2 rfl) ?_
                              refine wr_top (y := (nI (vN rg))) (x_vN (by omega)) ?_
                              refine lv_iload_n hx hb dX6_sign_121 rfl (lv_at hl 3 rfl) ?_
                              refine wr_top (y := (nI (vN tp))) (x_vN (by omega)) ?_
                              refine lv_iload hx hb dX6_sign_122 (lv_at hl 6 rfl) ?_
                              refine va_callv (va_runV (As := [.int (nI (vN rg)), .int (nI (vN tp)), .int mo]) (rest := []) ⟨hx, hb, hml, hown, hts⟩ (kX6_look l (M := (st M 137 0 (nI 0))) hD hn (z := (rs (vN rg))) (rq := vN rg) (tq := vN tp) (by rw [st_r _ _ _ (by decide)]; exact hm3) hm4 (by omega) (by omega)) (cwV 3 hts gX6_sign_X6_look rfl rfl rfl (by decide +kernel) ⟨Nat.le_of_ble_eq_true rfl, Nat.le_of_ble_eq_true rfl⟩) (rw_pv (ci := 5) (q := (RX6, TX6, 27)) hE hP hS hA rfl (wd_at (M := (st M 137 0 (nI 0))) (show 137 < n by omega) ((g_137 cy ad) _))) rfl rfl hl.1 rfl (lv_room (Nat.le_of_ble_eq_true rfl)) dX6_sign_124 ⟨Nat.le_of_ble_eq_true rfl, Nat.le_of_ble_eq_true rfl⟩) hS (fun q _ h => h) (fun q h => h) (fun u_124 t H1 locs ht hvm hr_124 hB_124 hz1 hk1 hS => ?_)
                              have hP : va_P D vwCl (wd cy ad n u_124 ++ []) H1 := by rw [← ht]; exact hB_124
                              clear hB_124 ht hvm hz1 hk1
                              generalize H1 = H at hP hS ⊢
                              have e22 : u_124 137 22 = nI (tB (M 143 (vN tp))) := by rw [hr_124.2.2.2.1, st_r _ _ _ (by decide)]; exact hmbt
                              have e23 : u_124 137 23 = (M 143 (vN tp)) := by rw [hr_124.2.2.2.2.1, st_r _ _ _ (by decide)]
                              have e24 : u_124 137 24 = mo := hr_124.2.2.2.2.2.1
                              have e152 : ∀ j, j < (rs (vN rg)) → u_124 152 j = M 142 (6 * vN rg + j) := fun j hj => by rw [hr_124.2.2.2.2.2.2 j hj, st_r _ _ _ (by decide)]
                              have hfo : ∀ a, a ≠ 137 → a ≠ 152 → u_124 a = M a := fun a a1 a2 => (hr_124.1 a a1 a2).trans (st_r _ _ _ a1)
                              have htu : tbP u_124 := tb_mx htb (hfo 138 (by decide) (by decide)) (hfo 139 (by decide) (by decide))
                              refine lv_aload_n hx hb dX6_sign_127 rfl (lv_at hl 1 rfl) ?_
                              refine va_get (D := D) (ci := 5) (v := .ref (ad 153)) (C := RX6) (T := TX6) (N := 27) hx hb hts hin_RX6 hown hE.1 hP 137 (wd_at (M := u_124) (show 137 < n by omega) ((g_137 cy ad) _)) rfl 25 (by decide) hf60 (fun _ h9 => h9) rfl dX6_sign_128 ?_
                              refine lv_iconst (v := (nI 1)) hx hb dX6_sign_131 (by decide) ?_
                              refine lv_aload_n hx hb dX6_sign_132 rfl (lv_at hl 1 rfl) ?_
                              refine va_get (D := D) (ci := 5) (v := .ref (ad 138)) (C := RX6) (T := TX6) (N := 27) hx hb hts hin_RX6 hown hE.1 hP 137 (wd_at (M := u_124) (show 137 < n by omega) ((g_137 cy ad) _)) rfl 1 (by decide) hf7 (fun _ h9 => h9) rfl dX6_sign_133 ?_
                              refine lv_aload_n hx hb dX6_sign_136 rfl (lv_at hl 1 rfl) ?_
                              refine va_get (D := D) (ci := 5) (v := .ref (ad 139)) (C := RX6) (T := TX6) (N := 27) hx hb hts hin_RX6 hown hE.1 hP 137 (wd_at (M := u_124) (show 137 < n by omega) ((g_137 cy ad) _)) rfl 2 (by decide) hf13 (fun _ h9 => h9) rfl dX6_sign_137 ?_
                              refine lv_aload_n hx hb dX6_sign_140 rfl (lv_at hl 1 rfl) ?_
                              refine va_get (D := D) (ci := 5) (v := .int (u_124 137 22)) (C := RX6) (T := TX6) (N := 27) hx hb hts hin_RX6 hown hE.1 hP 137 (wd_at (M := u_124) (show 137 < n by omega) ((g_137 cy ad) _)) rfl 22 (by decide) hf95 (fun _ h9 => h9) rfl dX6_sign_141 ?_
                              refine wr_top (y := (nI (tB (M 143 (vN tp))))) e22 ?_
                              refine wr_ald (cy := cy) (ad := ad) (ex := []) hx hb hE.1 hP 139 (show 139 < n by omega) ((g_139 cy ad) _) (tB (M 143 (vN tp))) rfl (by omega) (by decide) dX6_sign_144 ?_
                              refine wr_top (y := (nI (dlg (tB (M 143 (vN tp)))))) (by rw [hfo 139 (by decide) (by decide)]; exact tb_ex htb hbe) ?_
                              refine lv_iload hx hb dX6_sign_145 (lv_at hl 5 rfl) ?_
                              refine lv_imul hx hb dX6_sign_147 ?_
                              refine wr_top (y := (nI (dlg (tB (M 143 (vN tp))) * vN sec))) (xm_vN _ (by omega)) ?_
                              have hdl : dlg (tB (M 143 (vN tp))) * vN sec < 2 ^ 31 := dl_lt hbe hsn
                              refine lv_sipush (v := (nI 1013)) hx hb dX6_sign_148 (by decide) ?_
                              refine lv_irem hx hb dX6_sign_151 (by decide) ?_
                              refine wr_top (y := (nI ((dlg (tB (M 143 (vN tp))) * vN sec) % 1013))) (pk_rem (by omega) (by decide) (by decide)) ?_
                              refine wr_ald (cy := cy) (ad := ad) (ex := []) hx hb hE.1 hP 138 (show 138 < n by omega) ((g_138 cy ad) _) ((dlg (tB (M 143 (vN tp))) * vN sec) % 1013) rfl (Nat.mod_lt _ (by decide)) (by decide) dX6_sign_152 ?_
                              refine wr_top (y := (nI ((tB (M 143 (vN tp))) ^ (vN sec) % 2027))) (by rw [hfo 138 (by decide) (by decide)]; exact (htb.1 _ (Nat.mod_lt _ (by decide))).trans (congrArg nI (dl_pw hbe))) ?_
                              refine wr_ast (cy := cy) (ad := ad) (ex := []) hx hb hE.1 hP hD hS 153 (show 153 < n by omega) (g_153 cy ad) 1 rfl (by omega) (by decide) dX6_sign_153 (fun H locs hP hS => ?_)
                              refine lv_aload_n hx hb dX6_sign_154 rfl (lv_at hl 1 rfl) ?_
                              refine lv_iload hx hb dX6_sign_155 (lv_at hl 5 rfl) ?_
                              refine lv_iload_n hx hb dX6_sign_157 rfl (lv_at hl 4 rfl) ?_
                              refine wr_top (y := (nI (vN pl))) (x_vN (by omega)) ?_
                              refine va_calli (va_runV (As := [.int sec, .int (nI (vN pl))]) (rest := []) ⟨hx, hb, hml, hown, hts⟩ (kX6_nonce l (M := (st u_124 153 1 (nI ((tB (M 143 (vN tp))) ^ (vN sec) % 2027)))) hD hn) (cwV 2 hts gX6_sign_X6_nonce rfl rfl rfl (by decide +kernel) ⟨Nat.le_of_ble_eq_true rfl, Nat.le_of_ble_eq_true rfl⟩) (rw_pv (ci := 5) (q := (RX6, TX6, 27)) hE hP hS hA rfl (wd_at (M := (st u_124 153 1 (nI ((tB (M 143 (vN tp))) ^ (vN sec) % 2027)))) (show 137 < n by omega) ((g_137 cy ad) _))) rfl rfl hl.1 rfl (lv_room (Nat.le_of_ble_eq_true rfl)) dX6_sign_158 ⟨Nat.le_of_ble_eq_true rfl, Nat.le_of_ble_eq_true rfl⟩) hS (fun q _ h => h) (fun q h => h) (fun r_158 u_158 t H1 locs ht hvm hr_158 hB_158 hz1 hk1 hS => ?_)
                              have hP : va_P D vwCl (wd cy ad n u_158 ++ []) H1 := by rw [← ht]; exact hB_158
                              clear hB_158 ht hvm hz1 hk1
                              generalize H1 = H at hP hS ⊢
                              obtain ⟨rfl, hmx1⟩ := hr_158
                              refine wr_top (y := (nI (ncN (nI (vN sec)) (M 143 (vN tp)) mo (vN pl)))) (by rw [st_r _ _ _ (by decide), e23, e24]; conv => lhs; rw [hse]) ?_
                              refine lv_istore (lv' := [(7, .int (nI (ncN (nI (vN sec)) (M 143 (vN tp)) mo (vN pl)))), (6, .int (nI 0)), (0, .ref (ad 137)), (1, .int rg), (2, .int tp), (3, .int pl), (4, .int sec), (5, .int mo)]) hx hb dX6_sign_161 hl (by decide) rfl (fun ls hl => ?_)
                              refine lv_iload_n hx hb dX6_sign_163 rfl (lv_at hl 5 rfl) ?_
                              refine lv_iconst (v := (nI 1)) hx hb dX6_sign_164 (by decide) ?_
                              refine lv_iadd hx hb dX6_sign_165 ?_
                              refine wr_top (y := (nI (vN pl + 1))) (x1_vN (by omega)) ?_
                              refine lv_aload_n hx hb dX6_sign_166 rfl (lv_at hl 2 rfl) ?_
                              refine va_get (D := D) (ci := 5) (v := .int (u_158 137 20)) (C := RX6) (T := TX6) (N := 27) hx hb hts hin_RX6 hown hE.1 hP 137 (wd_at (M := u_158) (show 137 < n by omega) ((g_137 cy ad) _)) rfl 20 (by decide) hf78 (fun _ h9 => h9) rfl dX6_sign_167 ?_
                              refine wr_top (y := ((st u_124 153 1 (nI ((tB (M 143 (vN tp))) ^ (vN sec) % 2027))) 137 20)) (hmx1.2 _ (by decide)) ?_
                              refine wr_top (y := (u_124 137 20)) (by rw [st_r _ _ _ (by decide)]) ?_
                              refine wr_top (y := (nI (rs (vN rg)))) hr_124.2.2.1 ?_
                              refine lv_irem hx hb dX6_sign_170 (nz_z (show 0 < (rs (vN rg)) by omega) hm4) ?_
                              refine wr_top (y := (nI (plN (rs (vN rg)) (vN pl) 0))) (pk_rem (by omega) (by omega) (by omega)) ?_
                              refine lv_istore (lv' := [(8, .int (nI (plN (rs (vN rg)) (vN pl) 0))), (7, .int (nI (ncN (nI (vN sec)) (M 143 (vN tp)) mo (vN pl)))), (6, .int (nI 0)), (0, .ref (ad 137)), (1, .int rg), (2, .int tp), (3, .int pl), (4, .int sec), (5, .int mo)]) hx hb dX6_sign_171 hl (by decide) rfl (fun ls hl => ?_)
                              refine lv_aload_n hx hb dX6_sign_173 rfl (lv_at hl 3 rfl) ?_
                              refine lv_aload_n hx hb dX6_sign_174 rfl (lv_at hl 3 rfl) ?_
                              refine va_get (D := D) (ci := 5) (v := .ref (ad 138)) (C := RX6) (T := TX6) (N := 27) hx hb hts hin_RX6 hown hE.1 hP 137 (wd_at (M := u_158) (show 137 < n by omega) ((g_137 cy ad) _)) rfl 1 (by decide) hf7 (fun _ h9 => h9) rfl dX6_sign_175 ?_
                              refine lv_iload hx hb dX6_sign_178 (lv_at hl 1 rfl) ?_
                              refine wr_ald (cy := cy) (ad := ad) (ex := []) hx hb hE.1 hP 138 (show 138 < n by omega) ((g_138 cy ad) _) (ncN (nI (vN sec)) (M 143 (vN tp)) mo (vN pl)) rfl (ncN_lt _ _ _ _) (by decide) dX6_sign_180 ?_
                              refine wr_top (y := (nI (4 ^ (ncN (nI (vN sec)) (M 143 (vN tp)) mo (vN pl)) % 2027))) (by rw [hmx1.1 138 (by decide), st_r _ _ _ (by decide), hfo 138 (by decide) (by decide)]; exact htb.1 _ (ncN_lt _ _ _ _)) ?_
                              refine lv_aload_n hx hb dX6_sign_181 rfl (lv_at hl 3 rfl) ?_
                              refine va_get (D := D) (ci := 5) (v := .ref (ad 138)) (C := RX6) (T := TX6) (N := 27) hx hb hts hin_RX6 hown hE.1 hP 137 (wd_at (M := u_158) (show 137 < n by omega) ((g_137 cy ad) _)) rfl 1 (by decide) hf7 (fun _ h9 => h9) rfl dX6_sign_182 ?_
                              refine lv_aload_n hx hb dX6_sign_185 rfl (lv_at hl 3 rfl) ?_
                              refine va_get (D := D) (ci := 5) (v := .ref (ad 139)) (C := RX6) (T := TX6) (N := 27) hx hb hts hin_RX6 hown hE.1 hP 137 (wd_at (M := u_158) (show 137 < n by omega) ((g_137 cy ad) _)) rfl 2 (by decide) hf13 (fun _ h9 => h9) rfl dX6_sign_186 ?_
                              refine lv_aload_n hx hb dX6_sign_189 rfl (lv_at hl 3 rfl) ?_
                              refine va_get (D := D) (ci := 5) (v := .int (u_158 137 22)) (C := RX6) (T := TX6) (N := 27) hx hb hts hin_RX6 hown hE.1 hP 137 (wd_at (M := u_158) (show 137 < n by omega) ((g_137 cy ad) _)) rfl 22 (by decide) hf95 (fun _ h9 => h9) rfl dX6_sign_190 ?_
                              refine wr_top (y := ((st u_124 153 1 (nI ((tB (M 143 (vN tp))) ^ (vN sec) % 2027))) 137 22)) (hmx1.2 _ (by decide)) ?_
                              refine wr_top (y := (u_124 137 22)) (by rw [st_r _ _ _ (by decide)]) ?_
                              refine wr_top (y := (nI (tB (M 143 (vN tp))))) e22 ?_
                              refine wr_ald (cy := cy) (ad := ad) (ex := []) hx hb hE.1 hP 139 (show 139 < n by omega) ((g_139 cy ad) _) (tB (M 143 (vN tp))) rfl (by omega) (by decide) dX6_sign_193 ?_
                              refine wr_top (y := (nI (dlg (tB (M 143 (vN tp)))))) (by rw [hmx1.1 139 (by decide), st_r _ _ _ (by decide), hfo 139 (by decide) (by decide)]; exact tb_ex htb hbe) ?_
                              refine lv_iload hx hb dX6_sign_194 (lv_at hl 1 rfl) ?_
                              refine lv_imul hx hb dX6_sign_196 ?_
                              refine wr_top (y := (nI ((dlg (tB (M 143 (vN tp)))) * (ncN (nI (vN sec)) (M 143 (vN tp)) mo (vN pl))))) (pk_mul _ _) ?_
                              have hdl2 : dlg (tB (M 143 (vN tp))) * (ncN (nI (vN sec)) (M 143 (vN tp)) mo (vN pl)) < 2 ^ 31 := dl_lt hbe (ncN_lt _ _ _ _)
                              refine lv_sipush (v := (nI 1013)) hx hb dX6_sign_197 (by decide) ?_
                              refine lv_irem hx hb dX6_sign_200 (by decide) ?_
                              refine wr_top (y := (nI (((dlg (tB (M 143 (vN tp)))) * (ncN (nI (vN sec)) (M 143 (vN tp)) mo (vN pl))) % 1013))) (pk_rem (by omega) (by decide) (by decide)) ?_
                              refine wr_ald (cy := cy) (ad := ad) (ex := []) hx hb hE.1 hP 138 (show 138 < n by omega) ((g_138 cy ad) _) (((dlg (tB (M 143 (vN tp)))) * (ncN (nI (vN sec)) (M 143 (vN tp)) mo (vN pl))) % 1013) rfl (Nat.mod_lt _ (by decide)) (by decide) dX6_sign_201 ?_
                              refine wr_top (y := (nI ((tB (M 143 (vN tp))) ^ (ncN (nI (vN sec)) (M 143 (vN tp)) mo (vN pl)) % 2027))) (by rw [hmx1.1 138 (by decide), st_r _ _ _ (by decide), hfo 138 (by decide) (by decide)]; exact (htb.1 _ (Nat.mod_lt _ (by decide))).trans (congrArg nI (dl_pw hbe))) ?_
                              refine va_calli (va_runV (As := [.int (nI (4 ^ (ncN (nI (vN sec)) (M 143 (vN tp)) mo (vN pl)) % 2027)), .int (nI ((tB (M 143 (vN tp))) ^ (ncN (nI (vN sec)) (M 143 (vN tp)) mo (vN pl)) % 2027))]) (rest := []) ⟨hx, hb, hml, hown, hts⟩ (kX6_challenge l (M := u_158) hD hn (z := (rs (vN rg))) (by rw [hmx1.2 20 (by decide), st_r _ _ _ (by decide)]; exact hr_124.2.2.1) hm4) (cwV 2 hts gX6_sign_X6_challenge rfl rfl rfl (by decide +kernel) ⟨Nat.le_of_ble_eq_true rfl, Nat.le_of_ble_eq_true rfl⟩) (rw_pv (ci := 5) (q := (RX6, TX6, 27)) hE hP hS hA rfl (wd_at (M := u_158) (show 137 < n by omega) ((g_137 cy ad) _))) rfl rfl hl.1 rfl (lv_room (Nat.le_of_ble_eq_true rfl)) dX6_sign_202 ⟨Nat.le_of_ble_eq_true rfl, Nat.le_of_ble_eq_true rfl⟩) hS (fun q _ h => h) (fun q h => h) (fun r_202 u_202 t H1 locs ht hvm hr_202 hB_202 hz1 hk1 hS => ?_)
                              have hP : va_P D vwCl (wd cy ad n u_202 ++ []) H1 := by rw [← ht]; exact hB_202
                              clear hB_202 ht hvm hz1 hk1
                              generalize H1 = H at hP hS ⊢
                              obtain ⟨rfl, hmx2⟩ := hr_202
                              refine wr_top (y := (nI (snC (stmI (rs (vN rg)) (u_124 152) (M 143 (vN tp)) mo (nI ((tB (M 143 (vN tp))) ^ (vN sec) % 2027))) (tB (M 143 (vN tp))) ((tB (M 143 (vN tp))) ^ (vN sec) % 2027) (u_124 152) (nI (vN sec)) (M 143 (vN tp)) mo (rs (vN rg)) (vN pl) (ncN (nI (vN sec)) (M 143 (vN tp)) mo (vN pl)) 0))) (by rw [hmx1.1 152 (by decide), hmx1.1 153 (by decide), hmx1.2 23 (by decide), hmx1.2 24 (by decide), st_s, st_r _ _ _ (by decide), st_r _ _ _ (by decide), e23, e24]; rfl) ?_
                              refine lv_istore (lv' := [(9, .int (nI (snC (stmI (rs (vN rg)) (u_124 152) (M 143 (vN tp)) mo (nI ((tB (M 143 (vN tp))) ^ (vN sec) % 2027))) (tB (M 143 (vN tp))) ((tB (M 143 (vN tp))) ^ (vN sec) % 2027) (u_124 152) (nI (vN sec)) (M 143 (vN tp)) mo (rs (vN rg)) (vN pl) (ncN (nI (vN sec)) (M 143 (vN tp)) mo (vN pl)) 0))), (8, .int (nI (plN (rs (vN rg)) (vN pl) 0))), (7, .int (nI (ncN (nI (vN sec)) (M 143 (vN tp)) mo (vN pl)))), (6, .int (nI 0)), (0, .ref (ad 137)), (1, .int rg), (2, .int tp), (3, .int pl), (4, .int sec), (5, .int mo)]) hx hb dX6_sign_205 hl (by decide) rfl (fun ls hl => ?_)
                              refine wcutW 229 (fun (xq : Nat × Mm) H locs ls st9 => st9 = [] ∧ (xq.1 < (rs (vN rg)) ∧ msI (rs (vN rg)) (u_124 152) (M 143 (vN tp)) mo (tB (M 143 (vN tp))) (vN sec) (vN pl) u_124 xq.1 xq.2) ∧ va_P D vwCl (wd cy ad n xq.2 ++ []) H ∧ va_S A s.heap H locs ∧ lv_has ls 12 [(8, .int (nI (plN (rs (vN rg)) (vN pl) xq.1))), (9, .int (nI (snC (stmI (rs (vN rg)) (u_124 152) (M 143 (vN tp)) mo (nI ((tB (M 143 (vN tp))) ^ (vN sec) % 2027))) (tB (M 143 (vN tp))) ((tB (M 143 (vN tp))) ^ (vN sec) % 2027) (u_124 152) (nI (vN sec)) (M 143 (vN tp)) mo (rs (vN rg)) (vN pl) (ncN (nI (vN sec)) (M 143 (vN tp)) mo (vN pl)) xq.1))), (0, .ref (ad 137)), (1, .int rg), (2, .int tp), (3, .int pl), (4, .int sec), (7, .int (nI (ncN (nI (vN sec)) (M 143 (vN tp)) mo (vN pl))))]) (fun xq H locs ls st9 h9 => ?_) (fun hcut => ?_)
                              · obtain ⟨k0, Mk0⟩ := xq
                                obtain ⟨rfl, hI0, hP, hS, hl⟩ := h9
                                clear hmx1 hmx2
                                refine wloopW (fun kq (xq : Nat × Mm) H locs ls => kq = (rs (vN rg)) - xq.1 ∧ (xq.1 < (rs (vN rg)) ∧ msI (rs (vN rg)) (u_124 152) (M 143 (vN tp)) mo (tB (M 143 (vN tp))) (vN sec) (vN pl) u_124 xq.1 xq.2) ∧ va_P D vwCl (wd cy ad n xq.2 ++ []) H ∧ va_S A s.heap H locs ∧ lv_has ls 12 [(8, .int (nI (plN (rs (vN rg)) (vN pl) xq.1))), (9, .int (nI (snC (stmI (rs (vN rg)) (u_124 152) (M 143 (vN tp)) mo (nI ((tB (M 143 (vN tp))) ^ (vN sec) % 2027))) (tB (M 143 (vN tp))) ((tB (M 143 (vN tp))) ^ (vN sec) % 2027) (u_124 152) (nI (vN sec)) (M 143 (vN tp)) mo (rs (vN rg)) (vN pl) (ncN (nI (vN sec)) (M 143 (vN tp)) mo (vN pl)) xq.1))), (0, .ref (ad 137)), (1, .int rg), (2, .int tp), (3, .int pl), (4, .int sec), (7, .int (nI (ncN (nI (vN sec)) (M 143 (vN tp)) mo (vN pl))))]) (fun k229 x229 H locs ls h229 ih229 => ?_) _ (k0, Mk0) _ _ ls ⟨rfl, hI0, hP, hS, hl⟩
                                obtain ⟨k, Mk⟩ := x229
                                obtain ⟨hk229, hI, hP, hS, hl⟩ := h229
                                have hI : k < (rs (vN rg)) ∧ msI (rs (vN rg)) (u_124 152) (M 143 (vN tp)) mo (tB (M 143 (vN tp))) (vN sec) (vN pl) u_124 k Mk := hI
                                have hk229 : k229 = (rs (vN rg)) - k := hk229
                                have hP : va_P D vwCl (wd cy ad n Mk ++ []) H := hP
                                have hl : lv_has ls 12 [(8, .int (nI (plN (rs (vN rg)) (vN pl) k))), (9, .int (nI (snC (stmI (rs (vN rg)) (u_124 152) (M 143 (vN tp)) mo (nI ((tB (M 143 (vN tp))) ^ (vN sec) % 2027))) (tB (M 143 (vN tp))) ((tB (M 143 (vN tp))) ^ (vN sec) % 2027) (u_124 152) (nI (vN sec)) (M 143 (vN tp)) mo (rs (vN rg)) (vN pl) (ncN (nI (vN sec)) (M 143 (vN tp)) mo (vN pl)) k))), (0, .ref (ad 137)), (1, .int rg), (2, .int tp), (3, .int pl), (4, .int sec), (7, .int (nI (ncN (nI (vN sec)) (M 143 (vN tp)) mo (vN pl))))] := hl
                                refine lv_iload hx hb dX6_sign_229 (lv_at hl 0 rfl) ?_
                                refine lv_iload_n hx hb dX6_sign_231 rfl (lv_at hl 5 rfl) ?_
                                refine lv_icmp_eq (tgt := 304) hx hb dX6_sign_232 (by decide) (fun c_232 => ?_) (fun c_232 => ?_)
                                · have hkz : k + 1 = (rs (vN rg)) := pl_end hpz hm4 hI.1 (by omega) c_232
                                  refine lv_iload hx hb dX6_sign_304 (lv_at hl 7 rfl) ?_
                                  refine lv_iload hx hb dX6_sign_306 (lv_at hl 6 rfl) ?_
                                  refine lv_iload hx hb dX6_sign_308 (lv_at hl 1 rfl) ?_
                                  refine lv_imul hx hb dX6_sign_310 ?_
                                  refine wr_top (y := (nI ((vN sec) * (snC (stmI (rs (vN rg)) (u_124 152) (M 143 (vN tp)) mo (nI ((tB (M 143 (vN tp))) ^ (vN sec) % 2027))) (tB (M 143 (vN tp))) ((tB (M 143 (vN tp))) ^ (vN sec) % 2027) (u_124 152) (nI (vN sec)) (M 143 (vN tp)) mo (rs (vN rg)) (vN pl) (ncN (nI (vN sec)) (M 143 (vN tp)) mo (vN pl)) k)))) (xm2_vN _ (by omega)) ?_
                                  have hms : (vN sec) * (snC (stmI (rs (vN rg)) (u_124 152) (M 143 (vN tp)) mo (nI ((tB (M 143 (vN tp))) ^ (vN sec) % 2027))) (tB (M 143 (vN tp))) ((tB (M 143 (vN tp))) ^ (vN sec) % 2027) (u_124 152) (nI (vN sec)) (M 143 (vN tp)) mo (rs (vN rg)) (vN pl) (ncN (nI (vN sec)) (M 143 (vN tp)) mo (vN pl)) k) < 2 ^ 31 := by have h8 : (vN sec) * (snC (stmI (rs (vN rg)) (u_124 152) (M 143 (vN tp)) mo (nI ((tB (M 143 (vN tp))) ^ (vN sec) % 2027))) (tB (M 143 (vN tp))) ((tB (M 143 (vN tp))) ^ (vN sec) % 2027) (u_124 152) (nI (vN sec)) (M 143 (vN tp)) mo (rs (vN rg)) (vN pl) (ncN (nI (vN sec)) (M 143 (vN tp)) mo (vN pl)) k) < 1013 * 1013 := Nat.mul_lt_mul'' hsn (snC_lt _ _ _ _ _ _ _ _ _ _ k); omega
                                  refine lv_sipush (v := (nI 1013)) hx hb dX6_sign_311 (by decide) ?_
                                  refine lv_irem hx hb dX6_sign_314 (by decide) ?_
                                  refine wr_top (y := (nI (((vN sec) * (snC (stmI (rs (vN rg)) (u_124 152) (M 143 (vN tp)) mo (nI ((tB (M 143 (vN tp))) ^ (vN sec) % 2027))) (tB (M 143 (vN tp))) ((tB (M 143 (vN tp))) ^ (vN sec) % 2027) (u_124 152) (nI (vN sec)) (M 143 (vN tp)) mo (rs (vN rg)) (vN pl) (ncN (nI (vN sec)) (M 143 (vN tp)) mo (vN pl)) k)) % 1013))) (pk_rem (by omega) (by decide) (by decide)) ?_
                                  refine lv_isub hx hb dX6_sign_315 ?_
                                  refine lv_sipush (v := (nI 1013)) hx hb dX6_sign_316 (by decide) ?_
                                  refine lv_iadd hx hb dX6_sign_319 ?_
                                  refine wr_top (y := (nI ((ncN (nI (vN sec)) (M 143 (vN tp)) mo (vN pl)) + 1013 - (vN sec) * (snC (stmI (rs (vN rg)) (u_124 152) (M 143 (vN tp)) mo (nI ((tB (M 143 (vN tp))) ^ (vN sec) % 2027))) (tB (M 143 (vN tp))) ((tB (M 143 (vN tp))) ^ (vN sec) % 2027) (u_124 152) (nI (vN sec)) (M 143 (vN tp)) mo (rs (vN rg)) (vN pl) (ncN (nI (vN sec)) (M 143 (vN tp)) mo (vN pl)) k) % 1013))) (sb_nI (Nat.le_of_lt (Nat.mod_lt _ (by decide)))) ?_
                                  refine lv_sipush (v := (nI 1013)) hx hb dX6_sign_320 (by decide) ?_
                                  refine lv_irem hx hb dX6_sign_323 (by decide) ?_
                                  refine wr_top (y := (nI (lsN (ncN (nI (vN sec)) (M 143 (vN tp)) mo (vN pl)) ((vN sec) * (snC (stmI (rs (vN rg)) (u_124 152) (M 143 (vN tp)) mo (nI ((tB (M 143 (vN tp))) ^ (vN sec) % 2027))) (tB (M 143 (vN tp))) ((tB (M 143 (vN tp))) ^ (vN sec) % 2027) (u_124 152) (nI (vN sec)) (M 143 (vN tp)) mo (rs (vN rg)) (vN pl) (ncN (nI (vN sec)) (M 143 (vN tp)) mo (vN pl)) k))))) (pk_rem (by have := ncN_lt (nI (vN sec)) (M 143 (vN tp)) mo (vN pl); omega) (by decide) (by decide)) ?_
                                  refine lv_istore (lv' := [(10, .int (nI (lsN (ncN (nI (vN sec)) (M 143 (vN tp)) mo (vN pl)) ((vN sec) * (snC (stmI (rs (vN rg)) (u_124 152) (M 143 (vN tp)) mo (nI ((tB (M 143 (vN tp))) ^ (vN sec) % 2027))) (tB (M 143 (vN tp))) ((tB (M 143 (vN tp))) ^ (vN sec) % 2027) (u_124 152) (nI (vN sec)) (M 143 (vN tp)) mo (rs (vN rg)) (vN pl) (ncN (nI (vN sec)) (M 143 (vN tp)) mo (vN pl)) k))))), (8, .int (nI (plN (rs (vN rg)) (vN pl) k))), (9, .int (nI (snC (stmI (rs (vN rg)) (u_124 152) (M 143 (vN tp)) mo (nI ((tB (M 143 (vN tp))) ^ (vN sec) % 2027))) (tB (M 143 (vN tp))) ((tB (M 143 (vN tp))) ^ (vN sec) % 2027) (u_124 152) (nI (vN sec)) (M 143 (vN tp)) mo (rs (vN rg)) (vN pl) (ncN (nI (vN sec)) (M 143 (vN tp)) mo (vN pl)) k))), (0, .ref (ad 137)), (1, .int rg), (2, .int tp), (3, .int pl), (4, .int sec), (7, .int (nI (ncN (nI (vN sec)) (M 143 (vN tp)) mo (vN pl))))]) hx hb dX6_sign_324 hl (by decide) rfl (fun ls hl => ?_)
                                  refine lv_aload_n hx hb dX6_sign_326 rfl (lv_at hl 3 rfl) ?_
                                  refine va_get (D := D) (ci := 5) (v := .ref (ad 153)) (C := RX6) (T := TX6) (N := 27) hx hb hts hin_RX6 hown hE.1 hP 137 (wd_at (M := Mk) (show 137 < n by omega) ((g_137 cy ad) _)) rfl 25 (by decide) hf60 (fun _ h9 => h9) rfl dX6_sign_327 ?_
                                  refine lv_iconst (v := (nI 2)) hx hb dX6_sign_330 (by decide) ?_
                                  refine lv_iload_n hx hb dX6_sign_331 rfl (lv_at hl 6 rfl) ?_
                                  refine lv_iadd hx hb dX6_sign_332 ?_
                                  refine wr_top (y := (nI (2 + vN pl))) (xa_vN _ (by omega)) ?_
                                  refine lv_iload hx hb dX6_sign_333 (lv_at hl 0 rfl) ?_
                                  refine wr_ast (cy := cy) (ad := ad) (ex := []) hx hb hE.1 hP hD hS 153 (show 153 < n by omega) (g_153 cy ad) (2 + vN pl) rfl (by omega) (by decide) dX6_sign_335 (fun H locs hP hS => ?_)
                                  refine lv_aload_n hx hb dX6_sign_336 rfl (lv_at hl 3 rfl) ?_
                                  refine lv_iconst (v := (nI 2)) hx hb dX6_sign_337 (by decide) ?_
                                  refine lv_aload_n hx hb dX6_sign_338 rfl (lv_at hl 3 rfl) ?_
                                  refine va_get (D := D) (ci := 5) (v := .int ((st Mk 153 (2 + vN pl) (nI (lsN (ncN (nI (vN sec)) (M 143 (vN tp)) mo (vN pl)) ((vN sec) * (snC (stmI (rs (vN rg)) (u_124 152) (M 143 (vN tp)) mo (nI ((tB (M 143 (vN tp))) ^ (vN sec) % 2027))) (tB (M 143 (vN tp))) ((tB (M 143 (vN tp))) ^ (vN sec) % 2027) (u_124 152) (nI (vN sec)) (M 143 (vN tp)) mo (rs (vN rg)) (vN pl) (ncN (nI (vN sec)) (M 143 (vN tp)) mo (vN pl)) k))))) 137 20)) (C := RX6) (T := TX6) (N := 27) hx hb hts hin_RX6 hown hE.1 hP 137 (wd_at (M := (st Mk 153 (2 + vN pl) (nI (lsN (ncN (nI (vN sec)) (M 143 (vN tp)) mo (vN pl)) ((vN sec) * (snC (stmI (rs (vN rg)) (u_124 152) (M 143 (vN tp)) mo (nI ((tB (M 143 (vN tp))) ^ (vN sec) % 2027))) (tB (M 143 (vN tp))) ((tB (M 143 (vN tp))) ^ (vN sec) % 2027) (u_124 152) (nI (vN sec)) (M 143 (vN tp)) mo (rs (vN rg)) (vN pl) (ncN (nI (vN sec)) (M 143 (vN tp)) mo (vN pl)) k)))))) (show 137 < n by omega) ((g_137 cy ad) _)) rfl 20 (by decide) hf78 (fun _ h9 => h9) rfl dX6_sign_339 ?_
                                  refine wr_top (y := (Mk 137 20)) (by rw [st_r _ _ _ (by decide)]) ?_
                                  refine wr_top (y := (u_124 137 20)) (hI.2.2.1 _ (by decide)) ?_
                                  refine wr_top (y := (nI (rs (vN rg)))) hr_124.2.2.1 ?_
                                  refine lv_iadd hx hb dX6_sign_342 ?_
                                  refine wr_top (y := (nI (2 + (rs (vN rg))))) (nI_add _ _) ?_
                                  refine wr_put (cy := cy) (ad := ad) (ex := []) (ci := 5) (C := RX6) (T := TX6) (N := 27) (ty := .int) hx hb hts hin_RX6 tyX6 tyX6_ok nmX6 hown hE.1 hP hD hS 137 (show 137 < n by omega) ((g_137 cy ad) _) rfl 16 (by decide) hf47 (fun _ h9 => h9) rfl (by decide +kernel) rfl rfl (by simp) (((g_137 cy ad) _).trans (by simp [st_at])) dX6_sign_343 (fun H locs hP hS => ?_)
                                  refine lv_iconst (v := (nI 0)) hx hb dX6_sign_346 (by decide) ?_
                                  refine lv_istore (lv' := [(11, .int (nI 0)), (10, .int (nI (lsN (ncN (nI (vN sec)) (M 143 (vN tp)) mo (vN pl)) ((vN sec) * (snC (stmI (rs (vN rg)) (u_124 152) (M 143 (vN tp)) mo (nI ((tB (M 143 (vN tp))) ^ (vN sec) % 2027))) (tB (M 143 (vN tp))) ((tB (M 143 (vN tp))) ^ (vN sec) % 2027) (u_124 152) (nI (vN sec)) (M 143 (vN tp)) mo (rs (vN rg)) (vN pl) (ncN (nI (vN sec)) (M 143 (vN tp)) mo (vN pl)) k))))), (8, .int (nI (plN (rs (vN rg)) (vN pl) k))), (9, .int (nI (snC (stmI (rs (vN rg)) (u_124 152) (M 143 (vN tp)) mo (nI ((tB (M 143 (vN tp))) ^ (vN sec) % 2027))) (tB (M 143 (vN tp))) ((tB (M 143 (vN tp))) ^ (vN sec) % 2027) (u_124 152) (nI (vN sec)) (M 143 (vN tp)) mo (rs (vN rg)) (vN pl) (ncN (nI (vN sec)) (M 143 (vN tp)) mo (vN pl)) k))), (0, .ref (ad 137)), (1, .int rg), (2, .int tp), (3, .int pl), (4, .int sec), (7, .int (nI (ncN (nI (vN sec)) (M 143 (vN tp)) mo (vN pl))))]) hx hb dX6_sign_347 hl (by decide) rfl (fun ls hl => ?_)
                                  refine wloopW (fun kq (xq : Nat × Mm) H locs ls => match xq with | (i2, Mo) => kq = 2 + (rs (vN rg)) - i2 ∧ (i2 ≤ 2 + (rs (vN rg)) ∧ (∀ a, a ≠ 150 → Mo a = (st (st Mk 153 (2 + vN pl) (nI (lsN (ncN (nI (vN sec)) (M 143 (vN tp)) mo (vN pl)) ((vN sec) * (snC (stmI (rs (vN rg)) (u_124 152) (M 143 (vN tp)) mo (nI ((tB (M 143 (vN tp))) ^ (vN sec) % 2027))) (tB (M 143 (vN tp))) ((tB (M 143 (vN tp))) ^ (vN sec) % 2027) (u_124 152) (nI (vN sec)) (M 143 (vN tp)) mo (rs (vN rg)) (vN pl) (ncN (nI (vN sec)) (M 143 (vN tp)) mo (vN pl)) k))))) 137 16 (nI (2 + (rs (vN rg))))) a) ∧ ∀ j, j < i2 → Mo 150 j = (st (st Mk 153 (2 + vN pl) (nI (lsN (ncN (nI (vN sec)) (M 143 (vN tp)) mo (vN pl)) ((vN sec) * (snC (stmI (rs (vN rg)) (u_124 152) (M 143 (vN tp)) mo (nI ((tB (M 143 (vN tp))) ^ (vN sec) % 2027))) (tB (M 143 (vN tp))) ((tB (M 143 (vN tp))) ^ (vN sec) % 2027) (u_124 152) (nI (vN sec)) (M 143 (vN tp)) mo (rs (vN rg)) (vN pl) (ncN (nI (vN sec)) (M 143 (vN tp)) mo (vN pl)) k))))) 137 16 (nI (2 + (rs (vN rg))))) 153 j) ∧ va_P D vwCl (wd cy ad n Mo ++ []) H ∧ va_S A s.heap H locs ∧ lv_has ls 12 [(11, .int (nI i2)), (0, .ref (ad 137))]) (fun k349 x349 H locs ls h349 ih349 => ?_) _ (0, (st (st Mk 153 (2 + vN pl) (nI (lsN (ncN (nI (vN sec)) (M 143 (vN tp)) mo (vN pl)) ((vN sec) * (snC (stmI (rs (vN rg)) (u_124 152) (M 143 (vN tp)) mo (nI ((tB (M 143 (vN tp))) ^ (vN sec) % 2027))) (tB (M 143 (vN tp))) ((tB (M 143 (vN tp))) ^ (vN sec) % 2027) (u_124 152) (nI (vN sec)) (M 143 (vN tp)) mo (rs (vN rg)) (vN pl) (ncN (nI (vN sec)) (M 143 (vN tp)) mo (vN pl)) k))))) 137 16 (nI (2 + (rs (vN rg)))))) _ _ ls ⟨rfl, ⟨Nat.zero_le _, fun _ _ => rfl, fun j h => absurd h (Nat.not_lt_zero j)⟩, hP, hS, lv_sub hl [0, 4] rfl⟩
                                  obtain ⟨i2, Mo⟩ := x349
                                  obtain ⟨hk349, hK, hP, hS, hl⟩ := h349
                                  refine lv_iload hx hb dX6_sign_349 (lv_at hl 0 rfl) ?_
                                  refine lv_aload_n hx hb dX6_sign_351 rfl (lv_at hl 1 rfl) ?_
                                  refine va_get (D := D) (ci := 5) (v := .int (Mo 137 16)) (C := RX6) (T := TX6) (N := 27) hx hb hts hin_RX6 hown hE.1 hP 137 (wd_at (M := Mo) (show 137 < n by omega) ((g_137 cy ad) _)) rfl 16 (by decide) hf47 (fun _ h9 => h9) rfl dX6_sign_352 ?_
                                  refine wr_top (y := ((st (st Mk 153 (2 + vN pl) (nI (lsN (ncN (nI (vN sec)) (M 143 (vN tp)) mo (vN pl)) ((vN sec) * (snC (stmI (rs (vN rg)) (u_124 152) (M 143 (vN tp)) mo (nI ((tB (M 143 (vN tp))) ^ (vN sec) % 2027))) (tB (M 143 (vN tp))) ((tB (M 143 (vN tp))) ^ (vN sec) % 2027) (u_124 152) (nI (vN sec)) (M 143 (vN tp)) mo (rs (vN rg)) (vN pl) (ncN (nI (vN sec)) (M 143 (vN tp)) mo (vN pl)) k))))) 137 16 (nI (2 + (rs (vN rg))))) 137 16)) (by rw [hK.2.1 _ (by decide)]) ?_
                                  refine wr_top (y := (nI (2 + (rs (vN rg))))) (st_s _ _ _ _) ?_
                                  refine lv_icmp_ge (tgt := 378) hx hb dX6_sign_355 (by decide) (fun c_355 => ?_) (fun c_355 => ?_)
                                  · have c_355 := (nI_leI (by omega) (by omega)).mp c_355
                                    refine lv_aload_n hx hb dX6_sign_378 rfl (lv_at hl 1 rfl) ?_
                                    refine va_get (D := D) (ci := 5) (v := .ref (ad 153)) (C := RX6) (T := TX6) (N := 27) hx hb hts hin_RX6 hown hE.1 hP 137 (wd_at (M := Mo) (show 137 < n by omega) ((g_137 cy ad) _)) rfl 25 (by decide) hf60 (fun _ h9 => h9) rfl dX6_sign_379 ?_
                                    refine lv_iconst (v := (nI 1)) hx hb dX6_sign_382 (by decide) ?_
                                    refine wr_ald (cy := cy) (ad := ad) (ex := []) hx hb hE.1 hP 153 (show 153 < n by omega) ((g_153 cy ad) _) 1 rfl (by omega) (by decide) dX6_sign_383 ?_
                                    refine wr_top (y := (nI ((tB (M 143 (vN tp))) ^ (vN sec) % 2027))) (by rw [hK.2.1 153 (by decide), st_r _ _ _ (by decide), st_c _ _ _ (by omega)]; exact hI.2.2.2.1) ?_
                                    have hsg := ms_f hpz hkz hI.2
                                    have hw153 : (st (st Mk 153 (2 + vN pl) (nI (lsN (ncN (nI (vN sec)) (M 143 (vN tp)) mo (vN pl)) ((vN sec) * (snC (stmI (rs (vN rg)) (u_124 152) (M 143 (vN tp)) mo (nI ((tB (M 143 (vN tp))) ^ (vN sec) % 2027))) (tB (M 143 (vN tp))) ((tB (M 143 (vN tp))) ^ (vN sec) % 2027) (u_124 152) (nI (vN sec)) (M 143 (vN tp)) mo (rs (vN rg)) (vN pl) (ncN (nI (vN sec)) (M 143 (vN tp)) mo (vN pl)) k))))) 137 16 (nI (2 + (rs (vN rg))))) 153 = st Mk 153 (2 + vN pl) (nI (lsN (ncN (nI (vN sec)) (M 143 (vN tp)) mo (vN pl)) ((vN sec) * (snC (stmI (rs (vN rg)) (u_124 152) (M 143 (vN tp)) mo (nI ((tB (M 143 (vN tp))) ^ (vN sec) % 2027))) (tB (M 143 (vN tp))) ((tB (M 143 (vN tp))) ^ (vN sec) % 2027) (u_124 152) (nI (vN sec)) (M 143 (vN tp)) mo (rs (vN rg)) (vN pl) (ncN (nI (vN sec)) (M 143 (vN tp)) mo (vN pl)) k)))) 153 := st_r _ _ _ (by decide)
                                    refine W.iret (v := (nI ((tB (M 143 (vN tp))) ^ (vN sec) % 2027))) hx hb hr (fun t ht hW => ⟨⟨(nI ((tB (M 143 (vN tp))) ^ (vN sec) % 2027)), Mo, rfl, Or.inl ⟨hok, rfl, ?_⟩, (by show va_P D vwCl _ t.heap; rw [ht]; exact hP)⟩, hS.F ht⟩) hS.2.2 dX6_sign_384
                                    refine ⟨fun a a1 a2 a3 a4 => ?_, fun c c0 c16 c20 c22 c23 c24 c26 => ?_, ?_, ?_, ?_⟩
                                    · rw [hK.2.1 a a2, st_r _ _ _ a1, st_r _ _ _ a4, hI.2.1 a a1 a4]; exact hfo a a1 a3
                                    · rw [hK.2.1 137 (by decide), st_c _ _ _ c16, st_r _ _ _ (by decide), hI.2.2.1 c c26, hr_124.2.1 c c20 c22 c23 c24, st_c _ _ _ c0]
                                    · rw [hK.2.1 137 (by decide), st_c _ _ _ (by decide), st_r _ _ _ (by decide), hI.2.2.1 0 (by decide), hr_124.2.1 0 (by decide) (by decide) (by decide) (by decide), st_s]
                                    · rw [hK.2.1 137 (by decide), st_s]
                                    · exact sg_c hpz e152 (fun j hj => (hK.2.2 j (by omega)).trans (congrFun hw153 j)) hsg
                                  · have c_355 := mt (nI_leI (by omega) (by omega)).mpr c_355
                                    refine lv_aload_n hx hb dX6_sign_358 rfl (lv_at hl 1 rfl) ?_
                                    refine va_get (D := D) (ci := 5) (v := .ref (ad 150)) (C := RX6) (T := TX6) (N := 27) hx hb hts hin_RX6 hown hE.1 hP 137 (wd_at (M := Mo) (show 137 < n by omega) ((g_137 cy ad) _)) rfl 17 (by decide) hf51 (fun _ h9 => h9) rfl dX6_sign_359 ?_
                                    refine lv_iload hx hb dX6_sign_362 (lv_at hl 0 rfl) ?_
                                    refine lv_aload_n hx hb dX6_sign_364 rfl (lv_at hl 1 rfl) ?_
                                    refine va_get (D := D) (ci := 5) (v := .ref (ad 153)) (C := RX6) (T := TX6) (N := 27) hx hb hts hin_RX6 hown hE.1 hP 137 (wd_at (M := Mo) (show 137 < n by omega) ((g_137 cy ad) _)) rfl 25 (by decide) hf60 (fun _ h9 => h9) rfl dX6_sign_365 ?_
                                    refine lv_iload hx hb dX6_sign_368 (lv_at hl 0 rfl) ?_
                                    refine wr_ald (cy := cy) (ad := ad) (ex := []) hx hb hE.1 hP 153 (show 153 < n by omega) ((g_153 cy ad) _) i2 rfl (by omega) (by decide) dX6_sign_370 ?_
                                    refine wr_ast (cy := cy) (ad := ad) (ex := []) hx hb hE.1 hP hD hS 150 (show 150 < n by omega) (g_150 cy ad) i2 rfl (by omega) (by decide) dX6_sign_371 (fun H locs hP hS => ?_)
                                    refine lv_iinc (v := (nI (i2 + 1))) (lv' := [(11, .int (nI (i2 + 1))), (0, .ref (ad 137))]) hx hb dX6_sign_372 hl (k := 0) rfl (nI_1 _) (by decide) rfl (fun ls hl => ?_)
                                    refine lv_goto (tgt := 349) hx hb dX6_sign_375 (by decide) ?_
                                    exact ih349 _ (i2 + 1, (st Mo 150 i2 (Mo 153 i2))) _ _ _ (by omega) ⟨rfl, ⟨by omega, fun a h => by rw [st_r _ _ _ h]; exact hK.2.1 a h, fun j hj => by rcases Nat.lt_or_ge j i2 with h | h <;> first | (rw [st_c _ _ _ (show j ≠ i2 by omega)]; exact hK.2.2 j h) | (rw [show j = i2 by omega, st_s, hK.2.1 153 (by decide)])⟩, hP, hS, (lv_sub hl [0, 1] rfl)⟩
                                · have hk1 : k + 1 < (rs (vN rg)) := pl_go hpz hm4 hI.1 (by omega) c_232
                                  refine lv_aload_n hx hb dX6_sign_235 rfl (lv_at hl 2 rfl) ?_
                                  refine lv_iload hx hb dX6_sign_236 (lv_at hl 6 rfl) ?_
                                  refine lv_iload hx hb dX6_sign_238 (lv_at hl 0 rfl) ?_
                                  have hpl : (plN (rs (vN rg)) (vN pl) k) < (rs (vN rg)) := plN_lt k (by omega)
                                  refine va_calli (va_runV (As := [.int sec, .int (nI (plN (rs (vN rg)) (vN pl) k))]) (rest := []) ⟨hx, hb, hml, hown, hts⟩ (kX6_nonce l (M := Mk) hD hn) (cwV 2 hts gX6_sign_X6_nonce rfl rfl rfl (by decide +kernel) ⟨Nat.le_of_ble_eq_true rfl, Nat.le_of_ble_eq_true rfl⟩) (rw_pv (ci := 5) (q := (RX6, TX6, 27)) hE hP hS hA rfl (wd_at (M := Mk) (show 137 < n by omega) ((g_137 cy ad) _))) rfl rfl hl.1 rfl (lv_room (Nat.le_of_ble_eq_true rfl)) dX6_sign_240 ⟨Nat.le_of_ble_eq_true rfl, Nat.le_of_ble_eq_true rfl⟩) hS (fun q _ h => h) (fun q h => h) (fun r_240 u_240 t H1 locs ht hvm hr_240 hB_240 hz1 hk1 hS => ?_)
                                  have hP : va_P D vwCl (wd cy ad n u_240 ++ []) H1 := by rw [← ht]; exact hB_240
                                  clear hB_240 ht hvm hz1 hk1
                                  generalize H1 = H at hP hS ⊢
                                  obtain ⟨rfl, hmx1⟩ := hr_240
                                  refine wr_top (y := (nI (ncN (nI (vN sec)) (M 143 (vN tp)) mo (plN (rs (vN rg)) (vN pl) k)))) (by rw [hI.2.2.1 23 (by decide), hI.2.2.1 24 (by decide), e23, e24]; conv => lhs; rw [hse]) ?_
                                  refine lv_istore (lv' := [(10, .int (nI (ncN (nI (vN sec)) (M 143 (vN tp)) mo (plN (rs (vN rg)) (vN pl) k)))), (8, .int (nI (plN (rs (vN rg)) (vN pl) k))), (9, .int (nI (snC (stmI (rs (vN rg)) (u_124 152) (M 143 (vN tp)) mo (nI ((tB (M 143 (vN tp))) ^ (vN sec) % 2027))) (tB (M 143 (vN tp))) ((tB (M 143 (vN tp))) ^ (vN sec) % 2027) (u_124 152) (nI (vN sec)) (M 143 (vN tp)) mo (rs (vN rg)) (vN pl) (ncN (nI (vN sec)) (M 143 (vN tp)) mo (vN pl)) k))), (0, .ref (ad 137)), (1, .int rg), (2, .int tp), (3, .int pl), (4, .int sec), (7, .int (nI (ncN (nI (vN sec)) (M 143 (vN tp)) mo (vN pl))))]) hx hb dX6_sign_243 hl (by decide) rfl (fun ls hl => ?_)
                                  refine lv_aload_n hx hb dX6_sign_245 rfl (lv_at hl 3 rfl) ?_
                                  refine va_get (D := D) (ci := 5) (v := .ref (ad 153)) (C := RX6) (T := TX6) (N := 27) hx hb hts hin_RX6 hown hE.1 hP 137 (wd_at (M := u_240) (show 137 < n by omega) ((g_137 cy ad) _)) rfl 25 (by decide) hf60 (fun _ h9 => h9) rfl dX6_sign_246 ?_
                                  refine lv_iconst (v := (nI 2)) hx hb dX6_sign_249 (by decide) ?_
                                  refine lv_iload hx hb dX6_sign_250 (lv_at hl 1 rfl) ?_
                                  refine lv_iadd hx hb dX6_sign_252 ?_
                                  refine wr_top (y := (nI (2 + (plN (rs (vN rg)) (vN pl) k)))) (nI_add _ _) ?_
                                  refine lv_iload hx hb dX6_sign_253 (lv_at hl 0 rfl) ?_
                                  refine wr_ast (cy := cy) (ad := ad) (ex := []) hx hb hE.1 hP hD hS 153 (show 153 < n by omega) (g_153 cy ad) (2 + (plN (rs (vN rg)) (vN pl) k)) rfl (by omega) (by decide) dX6_sign_255 (fun H locs hP hS => ?_)
                                  refine lv_aload_n hx hb dX6_sign_256 rfl (lv_at hl 3 rfl) ?_
                                  refine lv_iload hx hb dX6_sign_257 (lv_at hl 2 rfl) ?_
                                  refine lv_iload hx hb dX6_sign_259 (lv_at hl 1 rfl) ?_
                                  refine lv_iload hx hb dX6_sign_261 (lv_at hl 0 rfl) ?_
                                  have q152 : (st u_240 153 (2 + (plN (rs (vN rg)) (vN pl) k)) (nI (ncN (nI (vN sec)) (M 143 (vN tp)) mo (plN (rs (vN rg)) (vN pl) k)))) 152 = u_124 152 := by rw [st_r _ _ _ (by decide), hmx1.1 152 (by decide)]; exact hI.2.1 152 (by decide) (by decide)
                                  have q1 : (st u_240 153 (2 + (plN (rs (vN rg)) (vN pl) k)) (nI (ncN (nI (vN sec)) (M 143 (vN tp)) mo (plN (rs (vN rg)) (vN pl) k)))) 153 1 = nI ((tB (M 143 (vN tp))) ^ (vN sec) % 2027) := by rw [st_c _ _ _ (by omega), hmx1.1 153 (by decide)]; exact hI.2.2.2.1
                                  have q137 : ∀ c, c ≠ 26 → (st u_240 153 (2 + (plN (rs (vN rg)) (vN pl) k)) (nI (ncN (nI (vN sec)) (M 143 (vN tp)) mo (plN (rs (vN rg)) (vN pl) k)))) 137 c = u_124 137 c := fun c hc => by rw [st_r _ _ _ (by decide), hmx1.2 c hc]; exact hI.2.2.1 c hc
                                  have qf : ∀ a, a ≠ 137 → a ≠ 153 → (st u_240 153 (2 + (plN (rs (vN rg)) (vN pl) k)) (nI (ncN (nI (vN sec)) (M 143 (vN tp)) mo (plN (rs (vN rg)) (vN pl) k)))) a = u_124 a := fun a a1 a2 => by rw [st_r _ _ _ a2, hmx1.1 a a1]; exact hI.2.1 a a1 a2
                                  refine va_calli (va_runV (As := [.int (nI (snC (stmI (rs (vN rg)) (u_124 152) (M 143 (vN tp)) mo (nI ((tB (M 143 (vN tp))) ^ (vN sec) % 2027))) (tB (M 143 (vN tp))) ((tB (M 143 (vN tp))) ^ (vN sec) % 2027) (u_124 152) (nI (vN sec)) (M 143 (vN tp)) mo (rs (vN rg)) (vN pl) (ncN (nI (vN sec)) (M 143 (vN tp)) mo (vN pl)) k)), .int (nI (plN (rs (vN rg)) (vN pl) k)), .int (nI (ncN (nI (vN sec)) (M 143 (vN tp)) mo (plN (rs (vN rg)) (vN pl) k)))]) (rest := []) ⟨hx, hb, hml, hown, hts⟩ (kX6_step l (M := (st u_240 153 (2 + (plN (rs (vN rg)) (vN pl) k)) (nI (ncN (nI (vN sec)) (M 143 (vN tp)) mo (plN (rs (vN rg)) (vN pl) k))))) hD hn (z := (rs (vN rg))) (bB := (tB (M 143 (vN tp)))) (tb_mx htu (qf 138 (by decide) (by decide)) (qf 139 (by decide) (by decide))) (by rw [q137 20 (by decide)]; exact hr_124.2.2.1) hm4 (by rw [q137 22 (by decide)]; exact e22) hbe (by omega) (by rw [q152, e152 _ hpl]; exact hm5 _ hpl) (by rw [q1, vN_nI (by omega)]; exact htg) (snC_lt _ _ _ _ _ _ _ _ _ _ k) (ncN_lt _ _ _ _)) (cwV 3 hts gX6_sign_X6_step rfl rfl rfl (by decide +kernel) ⟨Nat.le_of_ble_eq_true rfl, Nat.le_of_ble_eq_true rfl⟩) (rw_pv (ci := 5) (q := (RX6, TX6, 27)) hE hP hS hA rfl (wd_at (M := (st u_240 153 (2 + (plN (rs (vN rg)) (vN pl) k)) (nI (ncN (nI (vN sec)) (M 143 (vN tp)) mo (plN (rs (vN rg)) (vN pl) k))))) (show 137 < n by omega) ((g_137 cy ad) _))) rfl rfl hl.1 rfl (lv_room (Nat.le_of_ble_eq_true rfl)) dX6_sign_263 ⟨Nat.le_of_ble_eq_true rfl, Nat.le_of_ble_eq_true rfl⟩) hS (fun q _ h => h) (fun q h => h) (fun r_263 u_263 t H1 locs ht hvm hr_263 hB_263 hz1 hk1 hS => ?_)
                                  have hP : va_P D vwCl (wd cy ad n u_263 ++ []) H1 := by rw [← ht]; exact hB_263
                                  clear hB_263 ht hvm hz1 hk1
                                  generalize H1 = H at hP hS ⊢
                                  obtain ⟨rfl, hmx2⟩ := hr_263
                                  refine wr_top (y := (nI (snC (stmI (rs (vN rg)) (u_124 152) (M 143 (vN tp)) mo (nI ((tB (M 143 (vN tp))) ^ (vN sec) % 2027))) (tB (M 143 (vN tp))) ((tB (M 143 (vN tp))) ^ (vN sec) % 2027) (u_124 152) (nI (vN sec)) (M 143 (vN tp)) mo (rs (vN rg)) (vN pl) (ncN (nI (vN sec)) (M 143 (vN tp)) mo (vN pl)) (k + 1)))) (by rw [q152, q1, q137 23 (by decide), q137 24 (by decide), e23, e24, vN_nI (show ((tB (M 143 (vN tp))) ^ (vN sec) % 2027) < 2 ^ 31 by omega)]; rfl) ?_
                                  refine lv_istore (lv' := [(9, .int (nI (snC (stmI (rs (vN rg)) (u_124 152) (M 143 (vN tp)) mo (nI ((tB (M 143 (vN tp))) ^ (vN sec) % 2027))) (tB (M 143 (vN tp))) ((tB (M 143 (vN tp))) ^ (vN sec) % 2027) (u_124 152) (nI (vN sec)) (M 143 (vN tp)) mo (rs (vN rg)) (vN pl) (ncN (nI (vN sec)) (M 143 (vN tp)) mo (vN pl)) (k + 1)))), (10, .int (nI (ncN (nI (vN sec)) (M 143 (vN tp)) mo (plN (rs (vN rg)) (vN pl) k)))), (8, .int (nI (plN (rs (vN rg)) (vN pl) k))), (0, .ref (ad 137)), (1, .int rg), (2, .int tp), (3, .int pl), (4, .int sec), (7, .int (nI (ncN (nI (vN sec)) (M 143 (vN tp)) mo (vN pl))))]) hx hb dX6_sign_266 hl (by decide) rfl (fun ls hl => ?_)
                                  refine lv_iload hx hb dX6_sign_268 (lv_at hl 2 rfl) ?_
                                  refine lv_iconst (v := (nI 1)) hx hb dX6_sign_270 (by decide) ?_
                                  refine lv_iadd hx hb dX6_sign_271 ?_
                                  refine wr_top (y := (nI ((plN (rs (vN rg)) (vN pl) k) + 1))) (nI_add _ _) ?_
                                  refine lv_aload_n hx hb dX6_sign_272 rfl (lv_at hl 3 rfl) ?_
                                  refine va_get (D := D) (ci := 5) (v := .int (u_263 137 20)) (C := RX6) (T := TX6) (N := 27) hx hb hts hin_RX6 hown hE.1 hP 137 (wd_at (M := u_263) (show 137 < n by omega) ((g_137 cy ad) _)) rfl 20 (by decide) hf78 (fun _ h9 => h9) rfl dX6_sign_273 ?_
                                  refine wr_top (y := ((st u_240 153 (2 + (plN (rs (vN rg)) (vN pl) k)) (nI (ncN (nI (vN sec)) (M 143 (vN tp)) mo (plN (rs (vN rg)) (vN pl) k)))) 137 20)) (hmx2.2 _ (by decide)) ?_
                                  refine wr_top (y := (u_240 137 20)) (by rw [st_r _ _ _ (by decide)]) ?_
                                  refine wr_top (y := (Mk 137 20)) (hmx1.2 _ (by decide)) ?_
                                  refine wr_top (y := (u_124 137 20)) (hI.2.2.1 _ (by decide)) ?_
                                  refine wr_top (y := (nI (rs (vN rg)))) hr_124.2.2.1 ?_
                                  refine lv_irem hx hb dX6_sign_276 (nz_z (show 0 < (rs (vN rg)) by omega) hm4) ?_
                                  refine wr_top (y := (nI (plN (rs (vN rg)) (vN pl) (k + 1)))) ((pk_rem (by omega) (by omega) (by omega)).trans (congrArg nI plN_m)) ?_
                                  refine lv_istore (lv' := [(8, .int (nI (plN (rs (vN rg)) (vN pl) (k + 1)))), (9, .int (nI (snC (stmI (rs (vN rg)) (u_124 152) (M 143 (vN tp)) mo (nI ((tB (M 143 (vN tp))) ^ (vN sec) % 2027))) (tB (M 143 (vN tp))) ((tB (M 143 (vN tp))) ^ (vN sec) % 2027) (u_124 152) (nI (vN sec)) (M 143 (vN tp)) mo (rs (vN rg)) (vN pl) (ncN (nI (vN sec)) (M 143 (vN tp)) mo (vN pl)) (k + 1)))), (10, .int (nI (ncN (nI (vN sec)) (M 143 (vN tp)) mo (plN (rs (vN rg)) (vN pl) k)))), (0, .ref (ad 137)), (1, .int rg), (2, .int tp), (3, .int pl), (4, .int sec), (7, .int (nI (ncN (nI (vN sec)) (M 143 (vN tp)) mo (vN pl))))]) hx hb dX6_sign_277 hl (by decide) rfl (fun ls hl => ?_)
                                  have hpl1 : (plN (rs (vN rg)) (vN pl) (k + 1)) < (rs (vN rg)) := plN_lt (k + 1) (by omega)
                                  refine lv_aload_n hx hb dX6_sign_279 rfl (lv_at hl 3 rfl) ?_
                                  refine va_get (D := D) (ci := 5) (v := .ref (ad 153)) (C := RX6) (T := TX6) (N := 27) hx hb hts hin_RX6 hown hE.1 hP 137 (wd_at (M := u_263) (show 137 < n by omega) ((g_137 cy ad) _)) rfl 25 (by decide) hf60 (fun _ h9 => h9) rfl dX6_sign_280 ?_
                                  refine lv_iconst (v := (nI 0)) hx hb dX6_sign_283 (by decide) ?_
                                  refine lv_iload hx hb dX6_sign_284 (lv_at hl 0 rfl) ?_
                                  refine lv_if_ne (tgt := 294) hx hb dX6_sign_286 (by decide) (fun c_286 => ?_) (fun c_286 => ?_)
                                  · have c_286 := mt (o_eq0 _).mpr c_286
                                    rw [nI_toInt (by omega)] at c_286
                                    refine lv_aload_n hx hb dX6_sign_294 rfl (lv_at hl 3 rfl) ?_
                                    refine va_get (D := D) (ci := 5) (v := .ref (ad 153)) (C := RX6) (T := TX6) (N := 27) hx hb hts hin_RX6 hown hE.1 hP 137 (wd_at (M := u_263) (show 137 < n by omega) ((g_137 cy ad) _)) rfl 25 (by decide) hf60 (fun _ h9 => h9) rfl dX6_sign_295 ?_
                                    refine lv_iconst (v := (nI 0)) hx hb dX6_sign_298 (by decide) ?_
                                    refine wr_ald (cy := cy) (ad := ad) (ex := []) hx hb hE.1 hP 153 (show 153 < n by omega) ((g_153 cy ad) _) 0 rfl (by omega) (by decide) dX6_sign_299 ?_
                                    refine wr_top (y := (Mk 153 0)) (by rw [hmx2.1 153 (by decide), st_c _ _ _ (by omega), hmx1.1 153 (by decide)]) ?_
                                    refine wr_ast (cy := cy) (ad := ad) (ex := []) hx hb hE.1 hP hD hS 153 (show 153 < n by omega) (g_153 cy ad) 0 rfl (by omega) (by decide) dX6_sign_300 (fun H locs hP hS => ?_)
                                    refine lv_goto (tgt := 229) hx hb dX6_sign_301 (by decide) ?_
                                    exact ih229 _ (k + 1, (st u_263 153 0 (Mk 153 0))) _ _ _ (by omega) ⟨rfl, ⟨hk1, ms_s hpz hk1 hI.2 hmx1 hmx2 (Or.inr ⟨by omega, rfl⟩)⟩, hP, hS, lv_sub hl [0, 1, 3, 4, 5, 6, 7, 8] rfl⟩
                                  · have c_286 := (o_eq0 _).mp c_286
                                    rw [nI_toInt (by omega)] at c_286
                                    refine lv_iload hx hb dX6_sign_289 (lv_at hl 1 rfl) ?_
                                    refine lv_goto (tgt := 300) hx hb dX6_sign_291 (by decide) ?_
                                    refine wr_ast (cy := cy) (ad := ad) (ex := []) hx hb hE.1 hP hD hS 153 (show 153 < n by omega) (g_153 cy ad) 0 rfl (by omega) (by decide) dX6_sign_300 (fun H locs hP hS => ?_)
                                    refine lv_goto (tgt := 229) hx hb dX6_sign_301 (by decide) ?_
                                    exact ih229 _ (k + 1, (st u_263 153 0 (nI (snC (stmI (rs (vN rg)) (u_124 152) (M 143 (vN tp)) mo (nI ((tB (M 143 (vN tp))) ^ (vN sec) % 2027))) (tB (M 143 (vN tp))) ((tB (M 143 (vN tp))) ^ (vN sec) % 2027) (u_124 152) (nI (vN sec)) (M 143 (vN tp)) mo (rs (vN rg)) (vN pl) (ncN (nI (vN sec)) (M 143 (vN tp)) mo (vN pl)) (k + 1))))) _ _ _ (by omega) ⟨rfl, ⟨hk1, ms_s hpz hk1 hI.2 hmx1 hmx2 (Or.inl ⟨by omega, rfl⟩)⟩, hP, hS, lv_sub hl [0, 1, 3, 4, 5, 6, 7, 8] rfl⟩
                              · have hpl0 : (plN (rs (vN rg)) (vN pl) 0) < (rs (vN rg)) := plN_lt 0 (by omega)
                                refine lv_aload_n hx hb dX6_sign_207 rfl (lv_at hl 4 rfl) ?_
                                refine va_get (D := D) (ci := 5) (v := .ref (ad 153)) (C := RX6) (T := TX6) (N := 27) hx hb hts hin_RX6 hown hE.1 hP 137 (wd_at (M := u_202) (show 137 < n by omega) ((g_137 cy ad) _)) rfl 25 (by decide) hf60 (fun _ h9 => h9) rfl dX6_sign_208 ?_
                                refine lv_iconst (v := (nI 0)) hx hb dX6_sign_211 (by decide) ?_
                                refine lv_iload hx hb dX6_sign_212 (lv_at hl 1 rfl) ?_
                                refine lv_if_ne (tgt := 222) hx hb dX6_sign_214 (by decide) (fun c_214 => ?_) (fun c_214 => ?_)
                                · have c_214 := mt (o_eq0 _).mpr c_214
                                  rw [nI_toInt (by omega)] at c_214
                                  refine lv_aload_n hx hb dX6_sign_222 rfl (lv_at hl 4 rfl) ?_
                                  refine va_get (D := D) (ci := 5) (v := .ref (ad 153)) (C := RX6) (T := TX6) (N := 27) hx hb hts hin_RX6 hown hE.1 hP 137 (wd_at (M := u_202) (show 137 < n by omega) ((g_137 cy ad) _)) rfl 25 (by decide) hf60 (fun _ h9 => h9) rfl dX6_sign_223 ?_
                                  refine lv_iconst (v := (nI 0)) hx hb dX6_sign_226 (by decide) ?_
                                  refine wr_ald (cy := cy) (ad := ad) (ex := []) hx hb hE.1 hP 153 (show 153 < n by omega) ((g_153 cy ad) _) 0 rfl (by omega) (by decide) dX6_sign_227 ?_
                                  refine wr_top (y := (u_158 153 0)) (by rw [hmx2.1 _ (by decide)]) ?_
                                  refine wr_top (y := ((st u_124 153 1 (nI ((tB (M 143 (vN tp))) ^ (vN sec) % 2027))) 153 0)) (by rw [hmx1.1 _ (by decide)]) ?_
                                  refine wr_top (y := (u_124 153 0)) (st_c _ _ _ (by decide)) ?_
                                  refine wr_top (y := ((st M 137 0 (nI 0)) 153 0)) (by rw [hr_124.1 _ (by decide) (by decide)]) ?_
                                  refine wr_top (y := (M 153 0)) (by rw [st_r _ _ _ (by decide)]) ?_
                                  refine wr_ast (cy := cy) (ad := ad) (ex := []) hx hb hE.1 hP hD hS 153 (show 153 < n by omega) (g_153 cy ad) 0 rfl (by omega) (by decide) dX6_sign_228 (fun H locs hP hS => ?_)
                                  exact hcut (0, (st u_202 153 0 (M 153 0))) _ _ ls _ ⟨rfl, ⟨by omega, ms_0 hpz hmx1 hmx2 (fun h9 => by exfalso; omega)⟩, hP, hS, lv_sub hl [1, 0, 4, 5, 6, 7, 8, 2] rfl⟩
                                · have c_214 := (o_eq0 _).mp c_214
                                  rw [nI_toInt (by omega)] at c_214
                                  refine lv_iload hx hb dX6_sign_217 (lv_at hl 0 rfl) ?_
                                  refine lv_goto (tgt := 228) hx hb dX6_sign_219 (by decide) ?_
                                  refine wr_ast (cy := cy) (ad := ad) (ex := []) hx hb hE.1 hP hD hS 153 (show 153 < n by omega) (g_153 cy ad) 0 rfl (by omega) (by decide) dX6_sign_228 (fun H locs hP hS => ?_)
                                  exact hcut (0, (st u_202 153 0 (nI (snC (stmI (rs (vN rg)) (u_124 152) (M 143 (vN tp)) mo (nI ((tB (M 143 (vN tp))) ^ (vN sec) % 2027))) (tB (M 143 (vN tp))) ((tB (M 143 (vN tp))) ^ (vN sec) % 2027) (u_124 152) (nI (vN sec)) (M 143 (vN tp)) mo (rs (vN rg)) (vN pl) (ncN (nI (vN sec)) (M 143 (vN tp)) mo (vN pl)) 0)))) _ _ ls _ ⟨rfl, ⟨by omega, ms_0 hpz hmx1 hmx2 (fun _ => rfl)⟩, hP, hS, lv_sub hl [1, 0, 4, 5, 6, 7, 8, 2] rfl⟩
                            · exact absurd c_114 (by decide)
                          · exact absurd c_99 (by decide)
                        · refine lv_iconst (v := (nI 1)) hx hb dX6_sign_89 (by decide) ?_
                          refine lv_goto (tgt := 94) hx hb dX6_sign_90 (by decide) ?_
                          refine lv_istore (lv' := [(6, .int (nI 1)), (0, .ref (ad 137)), (1, .int rg), (2, .int tp), (3, .int pl), (4, .int sec), (5, .int mo)]) hx hb dX6_sign_94 hl (by decide) rfl (fun ls hl => ?_)
                          refine lv_aload_n hx hb dX6_sign_96 rfl (lv_at hl 1 rfl) ?_
                          refine lv_iload hx hb dX6_sign_97 (lv_at hl 0 rfl) ?_
                          refine lv_if_eq (tgt := 106) hx hb dX6_sign_99 (by decide) (fun c_99 => ?_) (fun c_99 => ?_)
                          · exact absurd c_99 (by decide)
                          · have c_99 := mt (o_eq0 _).mpr c_99
                            rw [nI_toInt (by omega)] at c_99
                            refine lv_iconst (v := (nI 1)) hx hb dX6_sign_102 (by decide) ?_
                            refine lv_goto (tgt := 107) hx hb dX6_sign_103 (by decide) ?_
                            refine wr_put (cy := cy) (ad := ad) (ex := []) (ci := 5) (C := RX6) (T := TX6) (N := 27) (ty := .int) hx hb hts hin_RX6 tyX6 tyX6_ok nmX6 hown hE.1 hP hD hS 137 (show 137 < n by omega) ((g_137 cy ad) _) rfl 0 (by decide) hf63 (fun _ h9 => h9) rfl (by decide +kernel) rfl rfl (by simp) (((g_137 cy ad) _).trans (by simp [st_at])) dX6_sign_107 (fun H locs hP hS => ?_)
                            refine lv_aload_n hx hb dX6_sign_110 rfl (lv_at hl 1 rfl) ?_
                            refine va_get (D := D) (ci := 5) (v := .int ((st M 137 0 (nI 1)) 137 0)) (C := RX6) (T := TX6) (N := 27) hx hb hts hin_RX6 hown hE.1 hP 137 (wd_at (M := (st M 137 0 (nI 1))) (show 137 < n by omega) ((g_137 cy ad) _)) rfl 0 (by decide) hf63 (fun _ h9 => h9) rfl dX6_sign_111 ?_
                            refine wr_top (y := (nI 1)) (st_s _ _ _ _) ?_
                            refine lv_if_eq (tgt := 119) hx hb dX6_sign_114 (by decide) (fun c_114 => ?_) (fun c_114 => ?_)
                            · exact absurd c_114 (by decide)
                            · have c_114 := mt (o_eq0 _).mpr c_114
                              rw [nI_toInt (by omega)] at c_114
                              refine lv_iconst (v := (nI 0)) hx hb dX6_sign_117 (by decide) ?_
                              exact W.iret (v := (nI 0)) hx hb hr (fun t ht hW => ⟨⟨(nI 0), (st M 137 0 (nI 1)), rfl, Or.inr ⟨fun h => c_86 h.2.2.2.2, rfl⟩, (by show va_P D vwCl _ t.heap; rw [ht]; exact hP)⟩, hS.F ht⟩) hS.2.2 dX6_sign_118
                    · have c_53 := mt (o_gt (by omega) _).mpr c_53
                      refine lv_iconst (v := (nI 1)) hx hb dX6_sign_56 (by decide) ?_
                      refine lv_goto (tgt := 61) hx hb dX6_sign_57 (by decide) ?_
                      refine lv_istore (lv' := [(6, .int (nI 1)), (0, .ref (ad 137)), (1, .int rg), (2, .int tp), (3, .int pl), (4, .int sec), (5, .int mo)]) hx hb dX6_sign_61 hl (by decide) rfl (fun ls hl => ?_)
                      refine lv_iload hx hb dX6_sign_63 (lv_at hl 0 rfl) ?_
                      refine lv_if_ne (tgt := 89) hx hb dX6_sign_65 (by decide) (fun c_65 => ?_) (fun c_65 => ?_)
                      · have c_65 := mt (o_eq0 _).mpr c_65
                        rw [nI_toInt (by omega)] at c_65
                        refine lv_iconst (v := (nI 1)) hx hb dX6_sign_89 (by decide) ?_
                        refine lv_goto (tgt := 94) hx hb dX6_sign_90 (by decide) ?_
                        refine lv_istore (lv' := [(6, .int (nI 1)), (0, .ref (ad 137)), (1, .int rg), (2, .int tp), (3, .int pl), (4, .int sec), (5, .int mo)]) hx hb dX6_sign_94 hl (by decide) rfl (fun ls hl => ?_)
                        refine lv_aload_n hx hb dX6_sign_96 rfl (lv_at hl 1 rfl) ?_
                        refine lv_iload hx hb dX6_sign_97 (lv_at hl 0 rfl) ?_
                        refine lv_if_eq (tgt := 106) hx hb dX6_sign_99 (by decide) (fun c_99 => ?_) (fun c_99 => ?_)
                        · exact absurd c_99 (by decide)
                        · have c_99 := mt (o_eq0 _).mpr c_99
                          rw [nI_toInt (by omega)] at c_99
                          refine lv_iconst (v := (nI 1)) hx hb dX6_sign_102 (by decide) ?_
                          refine lv_goto (tgt := 107) hx hb dX6_sign_103 (by decide) ?_
                          refine wr_put (cy := cy) (ad := ad) (ex := []) (ci := 5) (C := RX6) (T := TX6) (N := 27) (ty := .int) hx hb hts hin_RX6 tyX6 tyX6_ok nmX6 hown hE.1 hP hD hS 137 (show 137 < n by omega) ((g_137 cy ad) _) rfl 0 (by decide) hf63 (fun _ h9 => h9) rfl (by decide +kernel) rfl rfl (by simp) (((g_137 cy ad) _).trans (by simp [st_at])) dX6_sign_107 (fun H locs hP hS => ?_)
                          refine lv_aload_n hx hb dX6_sign_110 rfl (lv_at hl 1 rfl) ?_
                          refine va_get (D := D) (ci := 5) (v := .int ((st M 137 0 (nI 1)) 137 0)) (C := RX6) (T := TX6) (N := 27) hx hb hts hin_RX6 hown hE.1 hP 137 (wd_at (M := (st M 137 0 (nI 1))) (show 137 < n by omega) ((g_137 cy ad) _)) rfl 0 (by decide) hf63 (fun _ h9 => h9) rfl dX6_sign_111 ?_
                          refine wr_top (y := (nI 1)) (st_s _ _ _ _) ?_
                          refine lv_if_eq (tgt := 119) hx hb dX6_sign_114 (by decide) (fun c_114 => ?_) (fun c_114 => ?_)
                          · exact absurd c_114 (by decide)
                          · have c_114 := mt (o_eq0 _).mpr c_114
                            rw [nI_toInt (by omega)] at c_114
                            refine lv_iconst (v := (nI 0)) hx hb dX6_sign_117 (by decide) ?_
                            exact W.iret (v := (nI 0)) hx hb hr (fun t ht hW => ⟨⟨(nI 0), (st M 137 0 (nI 1)), rfl, Or.inr ⟨fun h => by have h1 := h.1; have h2 := h.2.1; have h3 := h.2.2.1; have h4 := h.2.2.2.1; omega, rfl⟩, (by show va_P D vwCl _ t.heap; rw [ht]; exact hP)⟩, hS.F ht⟩) hS.2.2 dX6_sign_118
                      · exact absurd c_65 (by decide)
              · exact absurd c_26 (by decide)
