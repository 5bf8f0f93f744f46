/-! answers and relation behind a call: ring, check, export, sign, submit -/
theorem ch_sur {x : Int32} : ∀ m j : Nat, j < chC x m → ∃ i, i < m ∧ chB x i ∧ chC x i = j
  | 0, _, h => absurd h (Nat.not_lt_zero _)
  | m + 1, j, h => by
    by_cases hb : chB x m
    · rw [chC_1 hb] at h
      rcases Nat.lt_or_ge j (chC x m) with q | q
      · obtain ⟨i, h1, h2, h3⟩ := ch_sur m j q
        exact ⟨i, by omega, h2, h3⟩
      · exact ⟨m, by omega, hb, by omega⟩
    · rw [chC_0 hb] at h
      obtain ⟨i, h1, h2, h3⟩ := ch_sur m j h
      exact ⟨i, by omega, h2, h3⟩
theorem okS_c {f g : Nat → Int32} {b B a : Nat} {v : Int32} (hfg : ∀ j, j < b → f j = g j) (h : okS f b v B a) : okS g b v B a := by
  obtain ⟨h1, h2, h3, h4, h5, h6⟩ := h
  have ep : pkN g a = pkN f a := congrArg vN (hfg a h1).symm
  unfold okS
  rw [ep, ← hfg a h1]
  refine ⟨h1, h2, h3, h4, fun i hi => ?_, ?_⟩
  · rw [← hfg (a + 1 + i) (by omega)]
    exact ⟨(h5 i hi).1, fun j hj => by rw [← hfg (a + 1 + j) (by omega)]; exact (h5 i hi).2 j hj⟩
  · rw [← hfg (a + 1 + pkN f a) (by omega)]
    exact gd_cong (fun i hi => hfg _ (by omega)) (fun i hi => hfg _ (by omega)) h6
theorem co_c {f g : Nat → Int32} {b B : Nat} {v : Int32} (hfg : ∀ j, j < b → f j = g j) : ∀ m : Nat, (∀ k, k < m → okS f b v B (coN f k)) → coN g m = coN f m
  | 0, _ => rfl
  | m + 1, h => by
    have h1 := h m (Nat.lt_succ_self m)
    show coN g m + 4 + 2 * pkN g (coN g m) = coN f m + 4 + 2 * pkN f (coN f m)
    rw [co_c hfg m (fun k hk => h k (by omega)), show pkN g (coN f m) = pkN f (coN f m) from congrArg vN (hfg _ h1.1).symm]
theorem ck_c {f g : Nat → Int32} {b : Nat} (hfg : ∀ j, j < b → f j = g j) (h : ckOK f b) : ckOK g b := by
  obtain ⟨h1, h2, h3, h4, h5⟩ := h
  have hc := fun m (hm : m ≤ vN (f 1)) => co_c hfg m (fun k hk => (h4 k (by omega)).1)
  unfold ckOK
  rw [← hfg 1 (by omega), ← hfg 0 (by omega)]
  refine ⟨h1, h2, h3, fun k hk => ?_, by rw [hc _ (Nat.le_refl _)]; exact h5⟩
  have h6 := h4 k hk
  have ht : ∀ j, j ≤ k → tgN g j = tgN f j := fun j hj => by
    have hj2 := (h4 j (by omega)).1
    unfold tgN
    rw [hc j (by omega), show pkN g (coN f j) = pkN f (coN f j) from congrArg vN (hfg _ hj2.1).symm]
    exact (hfg _ (by have := hj2.2.2.2.1; omega)).symm
  unfold okK
  rw [hc k (by omega)]
  refine ⟨okS_c hfg h6.1, fun j hj => ?_⟩
  rw [ht j (by omega), ht k (Nat.le_refl _)]
  exact h6.2 j hj
theorem ck_iff {f g : Nat → Int32} {b : Nat} (hfg : ∀ j, j < b → f j = g j) : ckOK f b ↔ ckOK g b := ⟨ck_c hfg, ck_c (fun j hj => (hfg j hj).symm)⟩
theorem bf_c {v0 v1 : Int32} {sz : Nat → Nat} {y y' num num' : Nat → Nat → Int32} {mo mo' : Nat → Int32} {m : Nat} (hy : ∀ k, k < m → ∀ j, j < sz k → y k j = y' k j) (hmo : ∀ k, k < m → mo k = mo' k) (hn : ∀ k, k < m → ∀ j, j < 2 + sz k → num k j = num' k j) :
    ∀ k : Nat, k ≤ m → ∀ j, j < boN sz k → bfF v0 v1 sz y mo num k j = bfF v0 v1 sz y' mo' num' k j
  | 0, _, _, _ => rfl
  | k + 1, hk, j, hj => by
    have hj : j < boN sz k + (4 + 2 * sz k) := hj
    show pcF _ _ _ _ _ _ j = pcF _ _ _ _ _ _ j
    unfold pcF
    by_cases e : j < boN sz k
    · rw [if_pos e, if_pos e]; exact bf_c hy hmo hn k (by omega) j e
    · rw [if_neg e, if_neg e]
      by_cases e2 : j = boN sz k
      · rw [if_pos e2, if_pos e2]
      · rw [if_neg e2, if_neg e2]
        by_cases e3 : j < boN sz k + 1 + sz k
        · rw [if_pos e3, if_pos e3]; exact hy k (by omega) _ (by omega)
        · rw [if_neg e3, if_neg e3]
          by_cases e4 : j = boN sz k + 1 + sz k
          · rw [if_pos e4, if_pos e4]; exact hmo k (by omega)
          · rw [if_neg e4, if_neg e4]; exact hn k (by omega) _ (by omega)
theorem sg_det {z : Nat} {y : Nat → Int32} {v mo : Int32} {B sn p : Nat} {f g : Nat → Int32} (h1 : sgN z y v mo B sn p f) (h2 : sgN z y v mo B sn p g) : ∀ j, j < 2 + z → f j = g j := by
  intro j hj
  rcases (show j = 0 ∨ j = 1 ∨ ∃ i, j = 2 + i by
    rcases Nat.lt_or_ge j 2 with q | q
    · omega
    · exact Or.inr (Or.inr ⟨j - 2, by omega⟩)) with rfl | rfl | ⟨i, rfl⟩
  · exact h1.2.1.trans h2.2.1.symm
  · exact h1.1.trans h2.1.symm
  · by_cases e : i = p
    · rw [e]; exact h1.2.2.1.trans h2.2.2.1.symm
    · exact (h1.2.2.2 i (by omega) e).trans (h2.2.2.2 i (by omega) e).symm
theorem md_ring {mc rc tc d b : Nat} {rs sc : Nat → Nat} {sr : Nat → Nat → Nat} {M u1 : Mm} {r : Int32} {x0 : Int32} (h : RelL mc rc tc d b rs sc sr M) (hw : WR_ring mc rc x0 M r u1) : mdL M u1 := by
  rcases hw with ⟨_, w, u0, ⟨_, a1, _, N1, hf, rfl⟩, rfl⟩ | ⟨_, hp⟩ | ⟨_, hp⟩
  · exact md_w (md_st (fun a h1 h2 => hf.1 a (by omega) (by omega)) (by decide))
  · rw [show u1 = M from hp.2]; exact md_rf
  · rw [show u1 = M from hp.2]; exact md_rf
theorem pq_ring {mc rc tc d b : Nat} {rs sc : Nat → Nat} {sr : Nat → Nat → Nat} {M u1 u2 : Mm} {r bb : Int32} {x0 : Int32} (h : RelL mc rc tc d b rs sc sr M) (hw : WR_ring mc rc x0 M r u1) (hm : PM_ring x0 mc rc u1 bb u2) : CN r bb u2 := by
  rcases hw with ⟨rfl, w, u0, ⟨e1, a1, a2, N1, hf, rfl⟩, rfl⟩ | ⟨rfl, hx, e0⟩ | ⟨rfl, hx, e0⟩
  · rcases hm with ⟨_, _, e2, N2, hg, rfl⟩ | ⟨hn, _⟩ | ⟨_, hn, _⟩
    · have m12 := rl_mc12 h
      have hz : chC x0 mc ≤ 6 := by
        have h6 := a2.2.1
        rw [ch_ok m12 a2.2.2, nI_toInt (by have := chC_le x0 mc; omega)] at h6
        omega
      have f : ∀ a, a ≠ 0 → a ≠ 13 + 2 * rc → a ≠ 13 + 2 * rc + 1 → a ≠ 137 → a ≠ 154 → st (st (st N1 0 2 (nI (rc + 1))) 154 0 w) 137 0 (nI 0) a = M a := fun a p0 p1 p2 p3 p4 => by
        rw [st_r _ _ _ p3, st_r _ _ _ p4, st_r _ _ _ p0, hf.1 a p1 p2]
      have g1 : ∀ i, i < mc → chB x0 i → st N2 137 5 (nI (rc + 1)) (13 + 2 * rc + 1) (chC x0 i) = M 2 i := fun i hi hb => by
        rw [st_r _ _ _ (by omega), hg.1 _ (by omega) (by omega), st_r _ _ _ (by omega), st_r _ _ _ (by omega), st_r _ _ _ (by omega)]
        exact hf.2.2.2 i hi hb
      refine ⟨?_, fun _ => ?_, rr (rel_rg (z := chC x0 mc) h (fun a _ _ _ _ _ _ _ _ _ _ _ _ _ _ => ?_) (fun c _ _ _ _ _ _ _ => ?_) (fun c hc => ?_) (fun c hc => ?_) (fun c hc => ?_) a1 hz ?_ (st_s _ _ _ _) ?_ ?_ (fun j hj => ?_) (fun j hj => ?_))⟩
      · rw [st_c _ _ _ (by decide), hg.1 137 (by decide) (by decide), st_s]
      · rw [st_r _ _ _ (by decide), hg.1 154 (by decide) (by decide), st_r _ _ _ (by decide), st_s]; exact e1.trans e2.symm
      · rw [st_r _ _ _ (by assumption), hg.1 a (by assumption) (by assumption)]; exact f a (by assumption) (by assumption) (by assumption) (by assumption) (by assumption)
      · rw [st_c _ _ _ (by assumption), hg.1 137 (by decide) (by decide), st_c _ _ _ (by assumption), st_r _ _ _ (by decide), st_r _ _ _ (by decide), hf.1 137 (by omega) (by omega)]
      · rw [st_r _ _ _ (by decide), hg.1 0 (by decide) (by decide), st_r _ _ _ (by decide), st_r _ _ _ (by decide), st_c _ _ _ hc, hf.1 0 (by omega) (by omega)]
      · rw [st_r _ _ _ (by decide), hg.2.2.1 c hc, f 141 (by omega) (by omega) (by omega) (by omega) (by omega)]
      · rw [st_r _ _ _ (by decide), hg.2.2.2.1 c hc, f 142 (by omega) (by omega) (by omega) (by omega) (by omega)]
      · rw [st_r _ _ _ (by decide), hg.1 0 (by decide) (by decide), st_r _ _ _ (by decide), st_r _ _ _ (by decide), st_s]
      · rw [st_r _ _ _ (by omega), hg.1 _ (by omega) (by omega), st_r _ _ _ (by omega), st_r _ _ _ (by omega), st_r _ _ _ (by omega)]; exact hf.2.1
      · rw [st_r _ _ _ (by decide)]; exact hg.2.1
      · obtain ⟨i, hi, hb, rfl⟩ := ch_sur mc j hj
        rw [g1 i hi hb, st_r _ _ _ (by decide), hg.2.2.2.2 i hi hb, f 140 (by omega) (by omega) (by omega) (by omega) (by omega)]
        exact rl_keys h i hi
      · obtain ⟨i, hi, hb, rfl⟩ := ch_sur mc j hj
        rw [g1 i hi hb]
        exact rl_keyE h i hi
    · exact absurd a2 hn
    · omega
  · obtain rfl := e0.symm
    have hx : ¬ (2 ≤ (bcI x0).toInt ∧ (bcI x0).toInt ≤ 6 ∧ uS x0 (nI mc) = 0) := by
      rcases hx with ⟨_, hx⟩ | ⟨he, _⟩
      · exact hx
      · exact absurd he (by decide)
    rcases hm with ⟨b1, _⟩ | ⟨_, rfl⟩ | ⟨b1, _⟩
    · exact absurd b1 hx
    · exact cn_f h (by decide)
    · exact absurd b1 hx
  · obtain rfl := e0.symm
    rcases hx with ⟨he, _⟩ | ⟨_, a1, a2⟩
    · exact absurd he (by decide)
    rcases hm with ⟨_, hn, _⟩ | ⟨hn, _⟩ | ⟨_, _, rfl⟩
    · omega
    · exact absurd a1 hn
    · exact cn_f h (by decide)
theorem md_check {mc rc tc d b : Nat} {rs sc : Nat → Nat} {sr : Nat → Nat → Nat} {M u1 : Mm} {r : Int32}  (h : RelL mc rc tc d b rs sc sr M) (hw : WR_check b M r u1) : mdL M u1 := by
  rcases hw with ⟨_, w, u0, ⟨_, _, hs⟩, rfl⟩ | ⟨_, _, _, hs⟩
  · exact md_w (fun a h1 h2 => hs a (by omega) (by omega) (by omega) (by omega) (by omega))
  · exact fun a h1 h2 => hs a (by omega) (by omega) (by omega) (by omega) (by omega)
theorem pq_check {mc rc tc d b : Nat} {rs sc : Nat → Nat} {sr : Nat → Nat → Nat} {M u1 u2 : Mm} {r bb : Int32}  (h : RelL mc rc tc d b rs sc sr M) (hw : WR_check b M r u1) (hm : PM_check b u1 bb u2) : CN r bb u2 := by
  have hr := md_check h hw 151 (by decide) (by decide)
  have q : ckOK (M 7) b ↔ ckOK (M 151) b := ck_iff (rl_row h)
  rcases hw with ⟨rfl, w, u0, ⟨e1, e2, hs⟩, rfl⟩ | ⟨rfl, _, hx, hs⟩
  · rcases hm with ⟨_, e3, hm⟩ | ⟨hn, _⟩
    · refine ⟨sM_0 hm, fun _ => ?_, rr (rel_sc h (sL_tr (sL_tr (sL_5 hs) sL_4) (sL_3 hm)))⟩
      rw [hm.1 154 (by decide) (by decide) (by decide), st_r _ _ _ (by decide), st_s, e3, hr, e2]
      exact rl_row h 1 (by have := e1.1; omega)
    · rw [hr] at hn; exact absurd (q.mp e1) hn
  · rcases hm with ⟨b1, _⟩ | ⟨_, hm⟩
    · rw [hr] at b1; exact absurd (q.mpr b1) hx
    · exact ⟨sM_0 hm, fun e => absurd e (by decide), rr (rel_sc h (sL_tr (sL_5 hs) (sL_3 hm)))⟩
theorem md_export {mc rc tc d b : Nat} {rs sc : Nat → Nat} {sr : Nat → Nat → Nat} {M u1 : Mm} {r : Int32} {x0 : Int32} (h : RelL mc rc tc d b rs sc sr M) (hw : WR_export rc tc (sc (vN x0)) rs (sr (vN x0)) x0 M r u1) : mdL M u1 := by
  rcases hw with ⟨_, w, u0, ⟨_, _, _, g1, _⟩, rfl⟩ | ⟨_, _, _, hs⟩
  · exact md_w (fun a h1 h2 => g1 a (by omega) (by omega))
  · rw [show u1 = M from hs]; exact md_rf
theorem pq_export {mc rc tc d b : Nat} {rs sc : Nat → Nat} {sr : Nat → Nat → Nat} {M u1 u2 : Mm} {r bb : Int32} {x0 : Int32} (h : RelL mc rc tc d b rs sc sr M) (hw : WR_export rc tc (sc (vN x0)) rs (sr (vN x0)) x0 M r u1) (hm : PM_export tc x0 rc (sc (vN x0)) rs (sr (vN x0)) u1 bb u2) : CN r bb u2 := by
  rcases hw with ⟨rfl, w, u0, ⟨a1, a2, e1, g1, g2, g3, g4⟩, rfl⟩ | ⟨rfl, _, hx, e0⟩
  · rcases hm with ⟨_, _, e2, m1, m2, m3, m4⟩ | ⟨hn, _⟩
    · have ht : vN x0 < tc := by rw [vN_toInt]; omega
      have f : ∀ a, a ≠ 0 → a ≠ 7 → a ≠ 154 → st u0 154 0 w a = M a := fun a p1 p2 p3 => by rw [st_r _ _ _ p3, g1 a p1 p2]
      have hB : boN (fun k => rs (sr (vN x0) k)) (sc (vN x0)) ≤ 200 := by
        have h1 := bo_le (sz := fun k => rs (sr (vN x0) k)) (fun k => rl_rs6 h _) (sc (vN x0))
        have := rl_sc8 h (vN x0)
        omega
      refine ⟨?_, fun _ => ?_, rr (rel_bu (b2 := boN (fun k => rs (sr (vN x0) k)) (sc (vN x0))) h (fun a _ _ _ _ _ _ _ _ _ _ _ _ => ?_) (fun c _ _ _ _ _ _ _ => ?_) (fun c hc => ?_) hB ?_ m3 (fun j hj => ?_))⟩
      · rw [m2 0 (by decide), st_s]
      · rw [m1 154 (by decide) (by decide), st_r _ _ _ (by decide), st_s]; exact e1.trans e2.symm
      · rw [m1 a (by assumption) (by assumption), st_r _ _ _ (by assumption)]; exact f a (by assumption) (by assumption) (by assumption)
      · rw [m2 c (by assumption), st_c _ _ _ (by assumption), f 137 (by decide) (by decide) (by decide)]
      · rw [m1 0 (by decide) (by decide), st_r _ _ _ (by decide), st_r _ _ _ (by decide), g2 c hc]
      · rw [m1 0 (by decide) (by decide), st_r _ _ _ (by decide), st_r _ _ _ (by decide), g3]
      · rw [m1 7 (by decide) (by decide), st_r _ _ _ (by decide), st_r _ _ _ (by decide), g4 j hj, m4 j hj, f 142 (by decide) (by decide) (by decide), f 143 (by decide) (by decide) (by decide), f 148 (by decide) (by decide) (by decide), f 149 (by decide) (by decide) (by decide), ← rl_vals h _ ht]
        exact bf_c (fun k hk i hi => rl_rows h _ (rl_cst h _ ht k hk).2.1 i hi) (fun k hk => rl_smo h _ ht k hk) (fun k hk i hi => rl_snu h _ ht k hk i hi) _ (Nat.le_refl _) j hj
    · exact absurd ⟨a1, a2⟩ hn
  · obtain rfl := e0.symm
    rcases hm with ⟨b1, b2, _⟩ | ⟨_, rfl⟩
    · omega
    · exact cn_f h (by decide)
theorem md_sign {mc rc tc d b : Nat} {rs sc : Nat → Nat} {sr : Nat → Nat → Nat} {M u1 : Mm} {r : Int32} {x0 x1 x2 x3 x4 : Int32} (h : RelL mc rc tc d b rs sc sr M) (hw : WR_sign rc tc rs x0 x1 x2 x3 x4 M r u1) : mdL M u1 := by
  rcases hw with ⟨_, w, u0, ⟨_, _, p1, _⟩, rfl⟩ | ⟨_, _, _, hs⟩
  · exact md_w (fun a h1 h2 => p1 a (by omega) (by omega))
  · rw [show u1 = M from hs]; exact md_rf
theorem pq_sign {mc rc tc d b : Nat} {rs sc : Nat → Nat} {sr : Nat → Nat → Nat} {M u1 u2 : Mm} {r bb : Int32} {x0 x1 x2 x3 x4 : Int32} (h : RelL mc rc tc d b rs sc sr M) (hw : WR_sign rc tc rs x0 x1 x2 x3 x4 M r u1) (hm : PM_sign x0 x1 x2 x3 x4 rc tc rs u1 bb u2) : CN r bb u2 := by
  have hr := md_sign h hw 142 (by decide) (by decide)
  have q : msOK rc tc rs u1 x0 x1 x2 x3 ↔ sgOK rc tc rs M x0 x1 x2 x3 := by
    unfold msOK sgOK
    rw [hr]
    refine and_congr_right fun a => and_congr_right fun _ => and_congr_right fun c => and_congr_right fun _ => ?_
    rw [rl_rows h (vN x0) (by rw [vN_toInt]; omega) (vN x2) (by rw [vN_toInt]; omega)]
  rcases hw with ⟨rfl, w, u0, ⟨ok, e1, p1, p2, p3, p4⟩, rfl⟩ | ⟨rfl, _, hx, e0⟩
  · rcases hm with ⟨_, e2, m1, m2, m3, m4, m5⟩ | ⟨hn, _⟩
    · have a1 := ok.1
      have a2 := ok.2.1
      have a3 := ok.2.2.1
      have hrg : vN x0 < rc := by rw [vN_toInt]; omega
      have ht : vN x1 < tc := by rw [vN_toInt]; omega
      have hp : vN x2 < rs (vN x0) := by rw [vN_toInt]; omega
      have h6 := rl_rs6 h (vN x0)
      have f : ∀ a, a ≠ 5 → a ≠ 6 → a ≠ 154 → st u0 154 0 w a = M a := fun a q1 q2 q3 => by rw [st_r _ _ _ q3, p1 a q1 q2]
      rw [f 142 (by decide) (by decide) (by decide), f 143 (by decide) (by decide) (by decide), ← rl_vals h _ ht] at m5
      have m6 := sg_c (g := u2 150) hp (y' := M (13 + 2 * vN x0 + 1)) (fun i hi => (rl_rows h _ hrg i hi).symm) (fun _ _ => rfl) m5
      have hd := sg_det p4 m6
      refine ⟨m3, fun _ => ?_, rr (rel_sg (d2 := 2 + rs (vN x0)) h (fun a _ _ _ _ _ _ _ _ _ _ _ _ => ?_) (fun c _ _ _ _ _ _ _ => ?_) (by omega) (by omega) ?_ m4 (fun j hj => ?_))⟩
      · rw [m1 154 (by decide) (by decide) (by decide) (by decide), st_s, e1, p4.1, e2, f 143 (by decide) (by decide) (by decide), ← rl_vals h _ ht]
      · rw [m1 a (by assumption) (by assumption) (by assumption) (by assumption)]; exact f a (by assumption) (by assumption) (by assumption)
      · rw [m2 c (by assumption) (by assumption) (by assumption) (by assumption) (by assumption) (by assumption) (by assumption), f 137 (by decide) (by decide) (by decide)]
      · rw [m1 5 (by decide) (by decide) (by decide) (by decide), st_r _ _ _ (by decide)]; exact p2
      · rw [m1 6 (by decide) (by decide) (by decide) (by decide), st_r _ _ _ (by decide)]; exact hd j hj
    · exact absurd (q.mpr ok) hn
  · obtain rfl := e0.symm
    rcases hm with ⟨b1, _⟩ | ⟨_, rfl⟩
    · exact absurd (q.mp b1) hx
    · exact cn_f h (by decide)
