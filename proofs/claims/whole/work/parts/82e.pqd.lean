/-! answers and relation behind submit -/
theorem md_submit {mc rc tc d b : Nat} {rs sc : Nat → Nat} {sr : Nat → Nat → Nat} {M u1 : Mm} {r : Int32} {x0 x1 x2 : Int32} (h : RelL mc rc tc d b rs sc sr M) (hw : WR_submit rc tc rs x0 x1 x2 sc M r u1) : mdL M u1 := by
  rcases hw with ⟨_, w, u0, ⟨_, hT, _, _, _, h8, _, rfl⟩, rfl⟩ | ⟨_, hp⟩ | ⟨_, hp⟩ | ⟨_, hp⟩
  · have := rl_tc6 h
    have ht : vN x1 < tc := by rw [vN_toInt]; omega
    exact md_w (md_st (md_st (md_st (md_up (md_st md_rf (by omega)) (by omega)) (by omega)) (by omega)) (by omega))
  · rw [show u1 = M from hp.2]; exact md_rf
  · rw [show u1 = M from hp.2]; exact md_rf
  · rw [show u1 = M from hp.2]; exact md_rf
theorem sb_iff {mc rc tc d b : Nat} {rs sc : Nat → Nat} {sr : Nat → Nat → Nat} {M : Mm} {x0 x1 x2 : Int32} (h : RelL mc rc tc d b rs sc sr M) (hR : (0 ≤ x0.toInt ∧ x0.toInt < (rc : Int))) (hT : (0 ≤ x1.toInt ∧ x1.toInt < (tc : Int))) : (M (29 + 18 * vN x1) 2 = M 145 (vN x1)) ∧ ((M 5 1 = nI (2 + rs (vN x0)) ∧ gdP (rs (vN x0)) (M (13 + 2 * vN x0 + 1)) (M (29 + 18 * vN x1) 0) x2 (tB (M (29 + 18 * vN x1) 0)) (M (5 + 1))) ↔ (d = 2 + rs (vN x0) ∧ gdP (rs (vN x0)) (fun j => M 142 (6 * vN x0 + j)) (M 143 (vN x1)) x2 (tB (M 143 (vN x1))) (M 150))) ∧ ((∃ j, j < sc (vN x1) ∧ j < sc (vN x1) ∧ M (29 + 18 * vN x1 + 2 + 2 * j + 1) 1 = M (5 + 1) 1) ↔ (∃ k, k < sc (vN x1) ∧ M 149 (8 * (8 * vN x1 + k) + 1) = M 150 1)) := by
  have t6 := rl_tc6 h
  have hr : vN x0 < rc := by rw [vN_toInt]; omega
  have ht : vN x1 < tc := by rw [vN_toInt]; omega
  have h6 := rl_rs6 h (vN x0)
  have d8 := rl_d8 h
  have hd : M 5 1 = nI (2 + rs (vN x0)) ↔ d = 2 + rs (vN x0) := by rw [rl_cd h]; exact nI_eq (by omega) (by omega)
  have f2 : M (5 + 1) 1 = M 150 1 := rl_drf h 1 (by have := rl_d2 h; omega)
  have f : ∀ j, j < sc (vN x1) → M (29 + 18 * vN x1 + 2 + 2 * j + 1) 1 = M 149 (8 * (8 * vN x1 + j) + 1) := fun j hj => rl_snu h _ ht j hj 1 (by omega)
  refine ⟨rl_clos h _ (by omega), ?_, ⟨fun ⟨j, hj, _, e⟩ => ⟨j, hj, ?_⟩, fun ⟨j, hj, e⟩ => ⟨j, hj, hj, ?_⟩⟩⟩
  · rw [rl_vals h _ ht]
    constructor
    · rintro ⟨e, g⟩
      have e := hd.mp e
      exact ⟨e, gd_cong (fun i hi => rl_rows h _ hr i hi) (fun i hi => rl_drf h i (by omega)) g⟩
    · rintro ⟨e, g⟩
      exact ⟨hd.mpr e, gd_cong (fun i hi => (rl_rows h _ hr i hi).symm) (fun i hi => (rl_drf h i (by omega)).symm) g⟩
  · rw [← f j hj, ← f2]; exact e
  · rw [f j hj, f2]; exact e
theorem pq_submit {mc rc tc d b : Nat} {rs sc : Nat → Nat} {sr : Nat → Nat → Nat} {M u1 u2 : Mm} {r bb : Int32} {x0 x1 x2 : Int32} (h : RelL mc rc tc d b rs sc sr M) (hw : WR_submit rc tc rs x0 x1 x2 sc M r u1) (hm : PM_submit x0 x1 x2 rc tc d rs sc u1 bb u2) : CN r bb u2 := by
  have hmd := md_submit h hw
  have r142 := hmd 142 (by decide) (by decide)
  have r143 := hmd 143 (by decide) (by decide)
  have r145 := hmd 145 (by decide) (by decide)
  have r149 := hmd 149 (by decide) (by decide)
  have r150 := hmd 150 (by decide) (by decide)
  unfold PM_submit at hm
  rw [r142, r143, r145, r149, r150] at hm
  rcases hw with ⟨rfl, w, u0, ⟨hR, hT, hC, hG, hN, h8, e1, e0⟩, e9⟩ | ⟨rfl, hx, e0⟩ | ⟨rfl, hx, e0⟩ | ⟨rfl, hx, e0⟩
  · obtain ⟨q1, q2, q3⟩ := sb_iff (x2 := x2) h hR hT
    have hC2 := q1.symm.trans hC
    have hG2 := q2.mp hG
    rcases hm with ⟨_, _, _, _, _, _, e2, hs⟩ | ⟨hn, _⟩ | ⟨_, _, hn, _⟩ | ⟨_, _, _, hn, _⟩ | ⟨_, _, _, _, hn, _⟩
    · obtain ⟨s1, s2, s3, s4, s5, s6, s7, s8⟩ := hs
      have t6 := rl_tc6 h
      have hr : vN x0 < rc := by rw [vN_toInt]; omega
      have ht : vN x1 < tc := by rw [vN_toInt]; omega
      have h6 := rl_rs6 h (vN x0)
      rw [r150] at s7
      have r146 := hmd 146 (by decide) (by decide)
      have r147 := hmd 147 (by decide) (by decide)
      have r148 := hmd 148 (by decide) (by decide)
      subst e0
      have f : ∀ a, a ≠ 29 + 18 * vN x1 + 2 + 2 * sc (vN x1) → a ≠ 29 + 18 * vN x1 + 2 + 2 * sc (vN x1) + 1 → a ≠ 29 + 18 * vN x1 → a ≠ 154 → u1 a = M a := fun a p1 p2 p3 p4 => by
        rw [e9, st_r _ _ _ p4, st_r _ _ _ p3, st_r _ _ _ p1, st_r _ _ _ p1, va_up_ne _ _ p2, st_r _ _ _ p1]
      refine ⟨s3, fun _ => ?_, rr (rel_sb (t0 := vN x1) (s := sc (vN x1)) (rg := vN x0) h (fun a _ _ _ _ _ _ _ _ _ _ _ _ _ _ _ _ => ?_) (fun c _ _ _ _ _ _ => ?_) (fun c hc => ?_) (fun c hc => ?_) (fun c hc => ?_) (fun c hc => ?_) (fun c hc => ?_) ht rfl h8 hr ?_ ?_ ?_ ?_ ?_ ?_ (fun j hj => ?_))⟩
      · rw [s1 154 (by decide) (by decide) (by decide) (by decide) (by decide) (by decide) (by decide), e9, st_s]; exact e1.trans e2.symm
      · rw [s1 a (by assumption) (by assumption) (by assumption) (by assumption) (by assumption) (by assumption) (by assumption)]; exact f a (by assumption) (by assumption) (by assumption) (by assumption)
      · rw [s2 c (by assumption) (by assumption) (by assumption) (by assumption) (by assumption) (by assumption), f 137 (by omega) (by omega) (by omega) (by omega)]
      · rw [s1 _ (by omega) (by omega) (by omega) (by omega) (by omega) (by omega) (by omega), e9, st_r _ _ _ (by omega), st_c _ _ _ hc, st_r _ _ _ (by omega), st_r _ _ _ (by omega), va_up_ne _ _ (by omega), st_r _ _ _ (by omega)]
      · rw [s4, st_c _ _ _ hc, r146]
      · rw [s5, st_c _ _ _ hc, r147]
      · rw [s6, st_c _ _ _ hc, r148]
      · rw [s8 c hc, r149]
      · rw [s1 _ (by omega) (by omega) (by omega) (by omega) (by omega) (by omega) (by omega), e9, st_r _ _ _ (by omega), st_s]
      · rw [s4, st_s]
      · rw [s1 _ (by omega) (by omega) (by omega) (by omega) (by omega) (by omega) (by omega), e9, st_r _ _ _ (by omega), st_r _ _ _ (by omega), st_c _ _ _ (by decide), st_s]; exact x_vN hR.1
      · rw [s5, st_s]; exact x_vN hR.1
      · rw [s1 _ (by omega) (by omega) (by omega) (by omega) (by omega) (by omega) (by omega), e9, st_r _ _ _ (by omega), st_r _ _ _ (by omega), st_c _ _ _ (by decide), st_c _ _ _ (by decide), va_up_ne _ _ (by omega), st_s]
      · rw [s1 _ (by omega) (by omega) (by omega) (by omega) (by omega) (by omega) (by omega), e9, st_r _ _ _ (by omega), st_r _ _ _ (by omega), st_s, s6, st_s]
      · rw [s7 j (by rw [hG2.1]; exact hj), s1 _ (by omega) (by omega) (by omega) (by omega) (by omega) (by omega) (by omega), e9, st_r _ _ _ (by omega), st_r _ _ _ (by omega), st_r _ _ _ (by omega), st_r _ _ _ (by omega), va_up_self]
        unfold va_cpy
        rw [if_pos ⟨Nat.zero_le _, by omega⟩, st_r _ _ _ (by omega), Nat.zero_add, Nat.sub_zero]
        exact rl_drf h j (by rw [hG2.1]; exact hj)
    · exact absurd ⟨hR, hT⟩ hn
    · exact absurd hC2 hn
    · exact absurd hG2 hn
    · rcases hn with hn | hn
      · exact absurd (q3.mpr hn) hN
      · omega
  · obtain rfl := e0.symm
    rcases hx with ⟨_, hx⟩ | ⟨he, _⟩ | ⟨_, hR, hT, hC, hG⟩ | ⟨he, _⟩
    · rcases hm with ⟨b1, b2, _⟩ | ⟨_, hs⟩ | ⟨b1, b2, _⟩ | ⟨b1, b2, _⟩ | ⟨b1, b2, _⟩
      · exact absurd ⟨b1, b2⟩ hx
      · exact cn_g h hs (by decide)
      · exact absurd ⟨b1, b2⟩ hx
      · exact absurd ⟨b1, b2⟩ hx
      · exact absurd ⟨b1, b2⟩ hx
    · exact absurd he (by decide)
    · obtain ⟨q1, q2, q3⟩ := sb_iff (x2 := x2) h hR hT
      rcases hm with ⟨_, _, _, hn, _⟩ | ⟨hn, _⟩ | ⟨_, _, hn, _⟩ | ⟨_, _, _, _, hs⟩ | ⟨_, _, _, hn, _⟩
      · exact absurd (q2.mpr hn) hG
      · exact absurd ⟨hR, hT⟩ hn
      · exact absurd (q1.symm.trans hC) hn
      · exact cn_g h hs (by decide)
      · exact absurd (q2.mpr hn) hG
    · exact absurd he (by decide)
  · obtain rfl := e0.symm
    rcases hx with ⟨he, _⟩ | ⟨_, hR, hT, hC⟩ | ⟨he, _⟩ | ⟨he, _⟩
    · exact absurd he (by decide)
    · obtain ⟨q1, q2, q3⟩ := sb_iff (x2 := x2) h hR hT
      have hC2 := mt q1.trans hC
      rcases hm with ⟨_, _, hn, _⟩ | ⟨hn, _⟩ | ⟨_, _, _, hs⟩ | ⟨_, _, hn, _⟩ | ⟨_, _, hn, _⟩
      · exact absurd hn hC2
      · exact absurd ⟨hR, hT⟩ hn
      · exact cn_g h hs (by decide)
      · exact absurd hn hC2
      · exact absurd hn hC2
    · exact absurd he (by decide)
    · exact absurd he (by decide)
  · obtain rfl := e0.symm
    rcases hx with ⟨he, _⟩ | ⟨he, _⟩ | ⟨he, _⟩ | ⟨_, hR, hT, hC, hG, hd⟩
    · exact absurd he (by decide)
    · exact absurd he (by decide)
    · exact absurd he (by decide)
    · obtain ⟨q1, q2, q3⟩ := sb_iff (x2 := x2) h hR hT
      have hC2 := q1.symm.trans hC
      rcases hm with ⟨_, _, _, _, hn, h8, _⟩ | ⟨hn, _⟩ | ⟨_, _, hn, _⟩ | ⟨_, _, _, hn, _⟩ | ⟨_, _, _, _, _, hs⟩
      · rcases hd with hd | hd
        · exact absurd (q3.mp hd) hn
        · omega
      · exact absurd ⟨hR, hT⟩ hn
      · exact absurd hC2 hn
      · exact absurd (q2.mp hG) hn
      · exact cn_g h hs (by decide)
