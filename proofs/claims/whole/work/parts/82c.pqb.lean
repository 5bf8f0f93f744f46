/-! answers and relation behind a call: what changes one row -/
theorem md_edit {mc rc tc d b : Nat} {rs sc : Nat → Nat} {sr : Nat → Nat → Nat} {M u1 : Mm} {r : Int32} {x0 x1 : Int32} (h : RelL mc rc tc d b rs sc sr M) (hw : WR_edit d x0 x1 M r u1) : mdL M u1 := by
  rcases hw with ⟨_, hp⟩ | ⟨_, hp⟩
  · rw [show u1 = _ from hp.2.2]; exact md_st md_rf (by decide)
  · rw [show u1 = M from hp.2.2]; exact md_rf
theorem pq_edit {mc rc tc d b : Nat} {rs sc : Nat → Nat} {sr : Nat → Nat → Nat} {M u1 u2 : Mm} {r : Int32} {x0 x1 : Int32} (h : RelL mc rc tc d b rs sc sr M) (hw : WR_edit d x0 x1 M r u1) (hm : PM_edit d x0 x1 u1 u2) : CV r u2 := by
  rcases hw with ⟨rfl, a1, a2, rfl⟩ | ⟨rfl, _, hx, e0⟩
  · rcases hm with ⟨_, _, rfl⟩ | ⟨hn, _⟩
    · have ht : vN x0 < d := by rw [vN_toInt]; omega
      refine ⟨by rw [st_r _ _ _ (by decide), st_s], rr (rel_dr h (fun a _ _ _ _ _ _ _ _ _ _ _ => ?_) (fun c _ _ _ _ _ _ => ?_) (fun j hj => ?_))⟩
      · rw [st_r _ _ _ (by assumption), st_r _ _ _ (by assumption), st_r _ _ _ (by assumption)]
      · rw [st_r _ _ _ (by decide), st_c _ _ _ (by assumption), st_r _ _ _ (by decide)]
      · rw [st_r _ _ _ (by decide), st_r _ _ _ (by decide), st_row, st_row, st_r _ _ _ (by decide), st_r _ _ _ (by decide)]
        unfold upd
        by_cases e : j = vN x0
        · rw [if_pos e, if_pos e]
        · rw [if_neg e, if_neg e]; exact rl_drf h j hj
    · exact absurd ⟨a1, a2⟩ hn
  · obtain rfl := e0.symm
    rcases hm with ⟨b1, b2, _⟩ | ⟨_, rfl⟩
    · exact absurd ⟨b1, b2⟩ hx
    · exact cv_f h
theorem md_poke {mc rc tc d b : Nat} {rs sc : Nat → Nat} {sr : Nat → Nat → Nat} {M u1 : Mm} {r : Int32} {x0 x1 : Int32} (h : RelL mc rc tc d b rs sc sr M) (hw : WR_poke b x0 x1 M r u1) : mdL M u1 := by
  rcases hw with ⟨_, hp⟩ | ⟨_, hp⟩
  · rw [show u1 = _ from hp.2.2.2]
    by_cases e : x0.toInt = (b : Int)
    · rw [if_pos e]; exact md_st (md_st md_rf (by decide)) (by decide)
    · rw [if_neg e]; exact md_st md_rf (by decide)
  · rw [show u1 = M from hp.2.2]; exact md_rf
theorem pq_poke {mc rc tc d b : Nat} {rs sc : Nat → Nat} {sr : Nat → Nat → Nat} {M u1 u2 : Mm} {r : Int32} {x0 x1 : Int32} (h : RelL mc rc tc d b rs sc sr M) (hw : WR_poke b x0 x1 M r u1) (hm : PM_poke b x0 x1 u1 u2) : CV r u2 := by
  rcases hw with ⟨rfl, a1, a2, a3, e0⟩ | ⟨rfl, _, hx, e0⟩
  · rcases hm with ⟨_, _, _, rfl⟩ | ⟨hn, _⟩
    · refine ⟨by rw [st_c _ _ _ (by decide), st_r _ _ _ (by decide), st_s], ?_⟩
      by_cases e : x0.toInt = (b : Int)
      · rw [if_pos e] at e0 ⊢
        have hv : vN x0 = b := by rw [vN_toInt]; omega
        subst e0
        refine rr (rel_bu (b2 := b + 1) h (fun a _ _ _ _ _ _ _ _ _ _ _ _ => ?_) (fun c _ _ _ _ _ _ _ => ?_) (fun c hc => ?_) (by omega) ?_ (st_s _ _ _ _) (fun j hj => ?_))
        · rw [st_r _ _ _ (by assumption), st_r _ _ _ (by assumption), st_r _ _ _ (by assumption), st_r _ _ _ (by assumption), st_r _ _ _ (by assumption)]
        · rw [st_c _ _ _ (by assumption), st_r _ _ _ (by decide), st_c _ _ _ (by assumption), st_r _ _ _ (by decide), st_r _ _ _ (by decide)]
        · rw [st_r _ _ _ (by decide), st_r _ _ _ (by decide), st_r _ _ _ (by decide), st_c _ _ _ hc, st_r _ _ _ (by decide)]
        · rw [st_r _ _ _ (by decide), st_r _ _ _ (by decide), st_r _ _ _ (by decide), st_s]
        · rw [st_r _ _ _ (by decide), st_r _ _ _ (by decide), st_r _ _ _ (by decide), st_r _ _ _ (by decide), st_row, st_r _ _ _ (by decide), st_row, st_r _ _ _ (by decide), st_r _ _ _ (by decide), st_r _ _ _ (by decide), hv]
          unfold upd
          by_cases e : j = b
          · rw [if_pos e, if_pos e]
          · rw [if_neg e, if_neg e]; exact rl_row h j (by omega)
      · rw [if_neg e] at e0 ⊢
        have hv : vN x0 < b := by rw [vN_toInt]; omega
        subst e0
        refine rr (rel_bu (b2 := b) h (fun a _ _ _ _ _ _ _ _ _ _ _ _ => ?_) (fun c _ _ _ _ _ _ _ => ?_) (fun c hc => ?_) (rl_b200 h) ?_ (st_s _ _ _ _) (fun j hj => ?_))
        · rw [st_r _ _ _ (by assumption), st_r _ _ _ (by assumption), st_r _ _ _ (by assumption), st_r _ _ _ (by assumption)]
        · rw [st_c _ _ _ (by assumption), st_r _ _ _ (by decide), st_c _ _ _ (by assumption), st_r _ _ _ (by decide)]
        · rw [st_r _ _ _ (by decide), st_r _ _ _ (by decide), st_r _ _ _ (by decide), st_r _ _ _ (by decide)]
        · rw [st_r _ _ _ (by decide), st_r _ _ _ (by decide), st_r _ _ _ (by decide), st_r _ _ _ (by decide)]; exact rl_cb h
        · rw [st_r _ _ _ (by decide), st_r _ _ _ (by decide), st_r _ _ _ (by decide), st_row, st_r _ _ _ (by decide), st_row, st_r _ _ _ (by decide), st_r _ _ _ (by decide)]
          unfold upd
          by_cases e : j = vN x0
          · rw [if_pos e, if_pos e]
          · rw [if_neg e, if_neg e]; exact rl_row h j hj
    · exact absurd ⟨a1, a2, a3⟩ hn
  · obtain rfl := e0.symm
    rcases hm with ⟨b1, b2, b3, _⟩ | ⟨_, rfl⟩
    · omega
    · exact cv_f h
theorem md_cut {mc rc tc d b : Nat} {rs sc : Nat → Nat} {sr : Nat → Nat → Nat} {M u1 : Mm} {r : Int32} {x0 : Int32} (h : RelL mc rc tc d b rs sc sr M) (hw : WR_cut b x0 M r u1) : mdL M u1 := by
  rcases hw with ⟨_, hp⟩ | ⟨_, hp⟩
  · rw [show u1 = _ from hp.2.2]; exact md_st md_rf (by decide)
  · rw [show u1 = M from hp.2.2]; exact md_rf
theorem pq_cut {mc rc tc d b : Nat} {rs sc : Nat → Nat} {sr : Nat → Nat → Nat} {M u1 u2 : Mm} {r : Int32} {x0 : Int32} (h : RelL mc rc tc d b rs sc sr M) (hw : WR_cut b x0 M r u1) (hm : PM_cut b x0 u1 u2) : CV r u2 := by
  rcases hw with ⟨rfl, a1, a2, rfl⟩ | ⟨rfl, _, hx, e0⟩
  · rcases hm with ⟨_, _, rfl⟩ | ⟨hn, _⟩
    · have hv : vN x0 ≤ b := by rw [vN_toInt]; omega
      refine ⟨by rw [st_c _ _ _ (by decide), st_s], rr (rel_bu (b2 := vN x0) h (fun a _ _ _ _ _ _ _ _ _ _ _ _ => ?_) (fun c _ _ _ _ _ _ _ => ?_) (fun c hc => ?_) (by have := rl_b200 h; omega) ?_ ?_ (fun j hj => ?_))⟩
      · rw [st_r _ _ _ (by assumption), st_r _ _ _ (by assumption), st_r _ _ _ (by assumption)]
      · rw [st_c _ _ _ (by assumption), st_c _ _ _ (by assumption), st_r _ _ _ (by decide)]
      · rw [st_r _ _ _ (by decide), st_r _ _ _ (by decide), st_c _ _ _ hc]
      · rw [st_r _ _ _ (by decide), st_r _ _ _ (by decide), st_s]; exact x_vN a1
      · rw [st_s]; exact x_vN a1
      · rw [st_r _ _ _ (by decide), st_r _ _ _ (by decide), st_r _ _ _ (by decide), st_r _ _ _ (by decide), st_r _ _ _ (by decide), st_r _ _ _ (by decide)]; exact rl_row h j (by omega)
    · exact absurd ⟨a1, a2⟩ hn
  · obtain rfl := e0.symm
    rcases hm with ⟨b1, b2, _⟩ | ⟨_, rfl⟩
    · omega
    · refine ⟨by rw [st_c _ _ _ (by decide), st_s], rr (rel_sc h ⟨fun a _ _ _ _ _ _ _ _ _ => ?_, fun c _ _ _ _ _ _ => ?_⟩)⟩
      · rw [st_r _ _ _ (by assumption), st_r _ _ _ (by assumption)]
      · rw [st_row]
        unfold upd
        by_cases e : c = 18
        · rw [if_pos e, e]; exact (rl_mb h).symm
        · rw [if_neg e, st_c _ _ _ (by assumption)]
theorem md_spoil {mc rc tc d b : Nat} {rs sc : Nat → Nat} {sr : Nat → Nat → Nat} {M u1 : Mm} {r : Int32} {x0 x1 x2 x3 : Int32} (h : RelL mc rc tc d b rs sc sr M) (hw : WR_spoil tc x0 x1 x2 x3 (sc (vN x0)) (fun k => 2 + rs (sr (vN x0) k)) M r u1) : mdL M u1 := by
  rcases hw with ⟨_, hp⟩ | ⟨_, hp⟩ | ⟨_, hp⟩
  · have hk := hp.2.2.2.1
    have h0 := hp.1
    have h1 := hp.2.1
    have := rl_tc6 h
    have := rl_sc8 h (vN x0)
    have ht : vN x0 < tc := by rw [vN_toInt]; omega
    have hk : vN x1 < sc (vN x0) := by have := hp.2.2.1; rw [vN_toInt]; omega
    rw [show u1 = _ from hp.2.2.2.2.2.2]; exact md_st md_rf (by omega)
  · rw [show u1 = M from hp.2]; exact md_rf
  · rw [show u1 = M from hp.2]; exact md_rf
theorem pq_spoil {mc rc tc d b : Nat} {rs sc : Nat → Nat} {sr : Nat → Nat → Nat} {M u1 u2 : Mm} {r : Int32} {x0 x1 x2 x3 : Int32} (h : RelL mc rc tc d b rs sc sr M) (hw : WR_spoil tc x0 x1 x2 x3 (sc (vN x0)) (fun k => 2 + rs (sr (vN x0) k)) M r u1) (hm : PM_spoil tc x0 x1 x2 x3 rc (sc (vN x0)) rs (sr (vN x0)) u1 u2) : CV r u2 := by
  rcases hw with ⟨rfl, a1, a2, a3, a4, a5, a6, rfl⟩ | ⟨rfl, hx, e0⟩ | ⟨rfl, hx, e0⟩
  · have := rl_tc6 h
    have := rl_sc8 h (vN x0)
    have ht : vN x0 < tc := by rw [vN_toInt]; omega
    have hk : vN x1 < sc (vN x0) := by rw [vN_toInt]; omega
    have hi : vN x2 < 2 + rs (sr (vN x0) (vN x1)) := by have a6 : x2.toInt < ((2 + rs (sr (vN x0) (vN x1)) : Nat) : Int) := a6; rw [vN_toInt]; omega
    have h6 := rl_rs6 h (sr (vN x0) (vN x1))
    rcases hm with ⟨_, _, _, _, _, _, rfl⟩ | ⟨hn, _⟩ | ⟨_, _, hn, _⟩
    · refine ⟨by rw [st_r _ _ _ (by decide), st_s], rr (rel_sp (t0 := vN x0) (s := vN x1) (i := vN x2) h (fun a _ _ _ _ _ _ _ _ _ _ _ => ?_) (fun c _ _ _ _ _ _ => ?_) (fun c hc => ?_) (fun c hc => ?_) ht (by omega) (by omega) ?_)⟩
      · rw [st_r _ _ _ (by assumption), st_r _ _ _ (by assumption), st_r _ _ _ (by assumption)]
      · rw [st_r _ _ _ (by decide), st_c _ _ _ (by assumption), st_r _ _ _ (by omega)]
      · rw [st_r _ _ _ (by omega), st_r _ _ _ (by omega), st_c _ _ _ hc]
      · rw [st_c _ _ _ hc, st_r _ _ _ (by decide), st_r _ _ _ (by omega)]
      · rw [st_r _ _ _ (by omega), st_r _ _ _ (by omega), st_s, st_s]
    · exact absurd ⟨a1, a2⟩ hn
    · exact absurd ⟨a3, a4, a5, a6⟩ hn
  · obtain rfl := e0.symm
    have hx : x0.toInt < 0 ∨ (tc : Int) ≤ x0.toInt := by
      rcases hx with ⟨_, hx⟩ | ⟨he, _⟩
      · exact hx
      · exact absurd he (by decide)
    rcases hm with ⟨b1, b2, _⟩ | ⟨_, rfl⟩ | ⟨b1, b2, _⟩
    · omega
    · exact cv_f h
    · omega
  · obtain rfl := e0.symm
    rcases hx with ⟨he, _⟩ | ⟨_, a1, a2, hx⟩
    · exact absurd he (by decide)
    rcases hm with ⟨_, _, b3, b4, b5, b6, _⟩ | ⟨hn, _⟩ | ⟨_, _, _, rfl⟩
    · rcases hx with hx | ⟨_, _, hx⟩
      · omega
      · exact absurd ⟨b5, b6⟩ hx
    · exact absurd ⟨a1, a2⟩ hn
    · exact cv_f h
theorem md_close {mc rc tc d b : Nat} {rs sc : Nat → Nat} {sr : Nat → Nat → Nat} {M u1 : Mm} {r : Int32} {x0 : Int32} (h : RelL mc rc tc d b rs sc sr M) (hw : WR_close tc x0 M r u1) : mdL M u1 := by
  rcases hw with ⟨_, w, u0, hp, rfl⟩ | ⟨_, hp⟩ | ⟨_, hp⟩
  · have h0 := hp.1
    have h1 := hp.2.1
    have := rl_tc6 h
    have ht : vN x0 < tc := by rw [vN_toInt]; omega
    rw [show u0 = _ from hp.2.2.2.2]; exact md_w (md_st md_rf (by omega))
  · rw [show u1 = M from hp.2]; exact md_rf
  · rw [show u1 = M from hp.2]; exact md_rf
theorem pq_close {mc rc tc d b : Nat} {rs sc : Nat → Nat} {sr : Nat → Nat → Nat} {M u1 u2 : Mm} {r bb : Int32} {x0 : Int32} (h : RelL mc rc tc d b rs sc sr M) (hw : WR_close tc x0 M r u1) (hm : PM_close tc x0 u1 bb u2) : CN r bb u2 := by
  rcases hw with ⟨rfl, w, u0, ⟨a1, a2, e1, a3, rfl⟩, rfl⟩ | ⟨rfl, hx, e0⟩ | ⟨rfl, hx, e0⟩
  · have := rl_tc6 h
    have ht : vN x0 < tc := by rw [vN_toInt]; omega
    have hc := rl_clos h (vN x0) (by omega)
    rcases hm with ⟨_, _, e2, _, rfl⟩ | ⟨hn, _⟩ | ⟨_, _, hn, _⟩
    · refine ⟨by rw [st_r _ _ _ (by decide), st_s], fun _ => ?_, rr (rel_cl (t0 := vN x0) h (fun a _ _ _ _ _ _ _ _ _ _ _ => ?_) (fun c _ _ _ _ _ _ => ?_) (fun c hc => ?_) (fun c hc => ?_) ht ?_)⟩
      · rw [st_r _ _ _ (by decide), st_r _ _ _ (by decide), st_s, e2, st_r _ _ _ (by decide), st_r _ _ _ (by omega), e1, rl_ccn h, rl_mcn h]
      · rw [st_r _ _ _ (by assumption), st_r _ _ _ (by assumption), st_r _ _ _ (by assumption), st_r _ _ _ (by assumption)]
      · rw [st_r _ _ _ (by decide), st_c _ _ _ (by assumption), st_r _ _ _ (by decide), st_r _ _ _ (by omega)]
      · rw [st_r _ _ _ (by omega), st_r _ _ _ (by omega), st_r _ _ _ (by omega), st_c _ _ _ hc]
      · rw [st_c _ _ _ hc, st_r _ _ _ (by decide), st_r _ _ _ (by decide), st_r _ _ _ (by omega)]
      · rw [st_r _ _ _ (by omega), st_r _ _ _ (by omega), st_r _ _ _ (by omega), st_s, st_s]
    · exact absurd ⟨a1, a2⟩ hn
    · refine absurd ?_ hn
      rw [st_r _ _ _ (by decide), st_r _ _ _ (by omega), ← hc]; exact a3
  · obtain rfl := e0.symm
    have hx : x0.toInt < 0 ∨ (tc : Int) ≤ x0.toInt := by
      rcases hx with ⟨_, hx⟩ | ⟨he, _⟩
      · exact hx
      · exact absurd he (by decide)
    rcases hm with ⟨b1, b2, _⟩ | ⟨_, rfl⟩ | ⟨b1, b2, _⟩
    · omega
    · exact cn_f h (by decide)
    · omega
  · obtain rfl := e0.symm
    rcases hx with ⟨he, _⟩ | ⟨_, a1, a2, hx⟩
    · exact absurd he (by decide)
    have := rl_tc6 h
    have ht : vN x0 < tc := by rw [vN_toInt]; omega
    have hc := rl_clos h (vN x0) (by omega)
    rcases hm with ⟨_, _, _, hn, _⟩ | ⟨hn, _⟩ | ⟨_, _, _, rfl⟩
    · rw [hc] at hx; exact absurd hn hx
    · exact absurd ⟨a1, a2⟩ hn
    · exact cn_f h (by decide)
theorem md_topic {mc rc tc d b : Nat} {rs sc : Nat → Nat} {sr : Nat → Nat → Nat} {M u1 : Mm} {r : Int32} {x0 : Int32} (h : RelL mc rc tc d b rs sc sr M) (hw : WR_topic tc x0 M r u1) : mdL M u1 := by
  rcases hw with ⟨_, w, u0, hp, rfl⟩ | ⟨_, hp⟩
  · have h0 := hp.2.1
    rw [show u0 = _ from hp.2.2]; exact md_w (md_st (md_st (md_st md_rf (by omega)) (by omega)) (by omega))
  · rw [show u1 = M from hp.2.2]; exact md_rf
theorem pq_topic {mc rc tc d b : Nat} {rs sc : Nat → Nat} {sr : Nat → Nat → Nat} {M u1 u2 : Mm} {r bb : Int32} {x0 : Int32} (h : RelL mc rc tc d b rs sc sr M) (hw : WR_topic tc x0 M r u1) (hm : PM_topic tc x0 u1 bb u2) : CN r bb u2 := by
  rcases hw with ⟨rfl, w, u0, ⟨e1, a1, rfl⟩, rfl⟩ | ⟨rfl, _, hx, e0⟩
  · rcases hm with ⟨_, e2, g1, g2⟩ | ⟨hn, _⟩
    · have f : ∀ a, a ≠ 0 → a ≠ 29 + 18 * tc → a ≠ 137 → a ≠ 143 → a ≠ 144 → a ≠ 154 → u2 a = M a := fun a p0 p1 p2 p3 p4 p5 => by
        rw [g1 a p2, st_r _ _ _ p2, st_r _ _ _ p4, st_r _ _ _ p3, st_r _ _ _ p2, st_r _ _ _ p5, st_r _ _ _ p0, st_r _ _ _ p1, st_r _ _ _ p1]
      refine ⟨?_, fun _ => ?_, rr (rel_tp (v := x0) h (fun a _ _ _ _ _ _ _ _ _ _ _ _ _ => f a (by assumption) (by assumption) (by assumption) (by assumption) (by assumption) (by assumption)) (fun c _ _ _ _ _ _ _ => ?_) (fun c hc => ?_) (fun c _ _ => ?_) (fun c hc => ?_) (fun c hc => ?_) a1 ?_ ?_ ?_ ?_ ?_ ?_)⟩
      · rw [g2 0 (by decide), st_c _ _ _ (by decide), st_r _ _ _ (by decide), st_r _ _ _ (by decide), st_s]
      · rw [g1 154 (by decide), st_r _ _ _ (by decide), st_r _ _ _ (by decide), st_r _ _ _ (by decide), st_r _ _ _ (by decide), st_s]; exact e1.trans e2.symm
      · rw [g2 c (by assumption), st_c _ _ _ (by assumption), st_r _ _ _ (by decide), st_r _ _ _ (by decide), st_c _ _ _ (by assumption), st_r _ _ _ (by decide), st_r _ _ _ (by decide), st_r _ _ _ (by omega), st_r _ _ _ (by omega)]
      · rw [g1 0 (by decide), st_r _ _ _ (by decide), st_r _ _ _ (by decide), st_r _ _ _ (by decide), st_r _ _ _ (by decide), st_r _ _ _ (by decide), st_c _ _ _ hc, st_r _ _ _ (by omega), st_r _ _ _ (by omega)]
      · rw [g1 _ (by omega), st_r _ _ _ (by omega), st_r _ _ _ (by omega), st_r _ _ _ (by omega), st_r _ _ _ (by omega), st_r _ _ _ (by omega), st_r _ _ _ (by omega), st_c _ _ _ (by assumption), st_c _ _ _ (by assumption)]
      · rw [g1 _ (by decide), st_r _ _ _ (by decide), st_r _ _ _ (by decide), st_c _ _ _ hc, st_r _ _ _ (by decide), st_r _ _ _ (by decide), st_r _ _ _ (by decide), st_r _ _ _ (by omega), st_r _ _ _ (by omega)]
      · rw [g1 _ (by decide), st_r _ _ _ (by decide), st_c _ _ _ hc, st_r _ _ _ (by decide), st_r _ _ _ (by decide), st_r _ _ _ (by decide), st_r _ _ _ (by decide), st_r _ _ _ (by omega), st_r _ _ _ (by omega)]
      · rw [g1 0 (by decide), st_r _ _ _ (by decide), st_r _ _ _ (by decide), st_r _ _ _ (by decide), st_r _ _ _ (by decide), st_r _ _ _ (by decide), st_s]
      · rw [g2 8 (by decide), st_s]
      · rw [g1 _ (by omega), st_r _ _ _ (by omega), st_r _ _ _ (by omega), st_r _ _ _ (by omega), st_r _ _ _ (by omega), st_r _ _ _ (by omega), st_r _ _ _ (by omega), st_c _ _ _ (by decide), st_s]
      · rw [g1 _ (by omega), st_r _ _ _ (by omega), st_r _ _ _ (by omega), st_r _ _ _ (by omega), st_r _ _ _ (by omega), st_r _ _ _ (by omega), st_r _ _ _ (by omega), st_s]
      · rw [g1 _ (by decide), st_r _ _ _ (by decide), st_r _ _ _ (by decide), st_s]
      · rw [g1 _ (by decide), st_r _ _ _ (by decide), st_s]
    · omega
  · obtain rfl := e0.symm
    rcases hm with ⟨b1, _⟩ | ⟨_, rfl⟩
    · omega
    · exact cn_f h (by decide)
theorem md_member {mc rc tc d b : Nat} {rs sc : Nat → Nat} {sr : Nat → Nat → Nat} {M u1 : Mm} {r : Int32} {x0 : Int32} (h : RelL mc rc tc d b rs sc sr M) (hw : WR_member mc x0 M r u1) : mdL M u1 := by
  rcases hw with ⟨_, w, u0, hp, rfl⟩ | ⟨_, hp⟩ | ⟨_, hp⟩
  · rw [show u0 = _ from hp.2.2.2.2]; exact md_w (md_st (md_st md_rf (by decide)) (by decide))
  · rw [show u1 = M from hp.2]; exact md_rf
  · rw [show u1 = M from hp.2]; exact md_rf
theorem pq_member {mc rc tc d b : Nat} {rs sc : Nat → Nat} {sr : Nat → Nat → Nat} {M u1 u2 : Mm} {r bb : Int32} {x0 : Int32} (h : RelL mc rc tc d b rs sc sr M) (hw : WR_member mc x0 M r u1) (hm : PM_member x0 mc u1 bb u2) : CN r bb u2 := by
  have q : ∀ N : Mm, N 140 = M 140 → ((∀ j, j < mc → N 140 j ≠ x0) ↔ ∀ j, j < mc → M 2 j ≠ x0) := fun N e => by
    rw [e]
    exact ⟨fun g j hj => by rw [rl_keys h j hj]; exact g j hj, fun g j hj => by rw [← rl_keys h j hj]; exact g j hj⟩
  rcases hw with ⟨rfl, w, u0, ⟨e1, a1, a2, a3, rfl⟩, rfl⟩ | ⟨rfl, hx, e0⟩ | ⟨rfl, hx, e0⟩
  · have q := q (st (st (st M 2 mc x0) 1 1 (nI (mc + 1))) 154 0 w) (by rw [st_r _ _ _ (by decide), st_r _ _ _ (by decide), st_r _ _ _ (by decide)])
    rcases hm with ⟨_, _, _, e2, rfl⟩ | ⟨hn, _⟩ | ⟨_, _, hn, _⟩
    · refine ⟨by rw [st_c _ _ _ (by decide), st_r _ _ _ (by decide), st_s], fun _ => ?_, rr (rel_mb (mc2 := mc + 1) h (fun a _ _ _ _ _ _ _ _ _ _ _ _ => ?_) (fun c _ _ _ _ _ _ _ => ?_) (by omega) ?_ (st_s _ _ _ _) (fun j hj => ?_) (fun j hj => ?_))⟩
      · rw [st_r _ _ _ (by decide), st_r _ _ _ (by decide), st_r _ _ _ (by decide), st_s]; exact e1.trans e2.symm
      · rw [st_r _ _ _ (by assumption), st_r _ _ _ (by assumption), st_r _ _ _ (by assumption), st_r _ _ _ (by assumption), st_r _ _ _ (by assumption), st_r _ _ _ (by assumption)]
      · rw [st_c _ _ _ (by assumption), st_r _ _ _ (by decide), st_c _ _ _ (by assumption), st_r _ _ _ (by decide), st_r _ _ _ (by decide), st_r _ _ _ (by decide)]
      · rw [st_r _ _ _ (by decide), st_r _ _ _ (by decide), st_r _ _ _ (by decide), st_r _ _ _ (by decide), st_s]
      · rw [st_r _ _ _ (by decide), st_r _ _ _ (by decide), st_r _ _ _ (by decide), st_r _ _ _ (by decide), st_r _ _ _ (by decide), st_row, st_r _ _ _ (by decide), st_row, st_r _ _ _ (by decide), st_r _ _ _ (by decide), st_r _ _ _ (by decide), st_r _ _ _ (by decide)]
        unfold upd
        by_cases e : j = mc
        · rw [if_pos e, if_pos e]
        · rw [if_neg e, if_neg e]; exact rl_keys h j (by omega)
      · rw [st_r _ _ _ (by decide), st_r _ _ _ (by decide), st_r _ _ _ (by decide), st_r _ _ _ (by decide), st_r _ _ _ (by decide), st_row]
        unfold upd
        by_cases e : j = mc
        · rw [if_pos e]; exact a2
        · rw [if_neg e]; exact rl_keyE h j (by omega)
    · exact absurd ⟨a2, q.mpr a3⟩ hn
    · omega
  · obtain rfl := e0.symm
    have q := q M rfl
    have hx : ¬ (eltN (vN x0) = true ∧ ∀ j, j < mc → M 2 j ≠ x0) := by
      rcases hx with ⟨_, hx⟩ | ⟨he, _⟩
      · exact hx
      · exact absurd he (by decide)
    rcases hm with ⟨b1, b2, _⟩ | ⟨_, rfl⟩ | ⟨b1, b2, _⟩
    · exact absurd ⟨b1, q.mp b2⟩ hx
    · exact cn_f h (by decide)
    · exact absurd ⟨b1, q.mp b2⟩ hx
  · obtain rfl := e0.symm
    have q := q M rfl
    rcases hx with ⟨he, _⟩ | ⟨_, a1, a2, a3⟩
    · exact absurd he (by decide)
    rcases hm with ⟨_, _, hn, _⟩ | ⟨hn, _⟩ | ⟨_, _, _, rfl⟩
    · omega
    · exact absurd ⟨a1, q.mpr a2⟩ hn
    · exact cn_f h (by decide)
