/-! answers and relation behind a call, the simple ones -/
theorem md_key {mc rc tc d b : Nat} {rs sc : Nat → Nat} {sr : Nat → Nat → Nat} {M u1 : Mm} {r : Int32} {x0 : Int32} (h : RelL mc rc tc d b rs sc sr M) (hw : WR_key x0 M r u1) : mdL M u1 := by
  rcases hw with ⟨_, w, u0, hp, rfl⟩ | ⟨_, hp⟩
  · rw [show u0 = M from hp.2.2.2]; exact md_w md_rf
  · rw [show u1 = M from hp.2.2]; exact md_rf
theorem pq_key {mc rc tc d b : Nat} {rs sc : Nat → Nat} {sr : Nat → Nat → Nat} {M u1 u2 : Mm} {r bb : Int32} {x0 : Int32} (h : RelL mc rc tc d b rs sc sr M) (hw : WR_key x0 M r u1) (hm : PM_key x0 u1 bb u2) : CN r bb u2 := by
  rcases hw with ⟨rfl, w, u0, ⟨e1, a1, a2, e0⟩, rfl⟩ | ⟨rfl, _, hx, e0⟩
  · obtain rfl := e0.symm
    rcases hm with ⟨_, _, e2, rfl⟩ | ⟨hn, _⟩
    · exact cn_r h (e1.trans e2.symm)
    · exact absurd ⟨a1, a2⟩ hn
  · obtain rfl := e0.symm
    rcases hm with ⟨b1, b2, _⟩ | ⟨_, rfl⟩
    · exact absurd ⟨b1, b2⟩ hx
    · exact cn_f h (by decide)
theorem md_base {mc rc tc d b : Nat} {rs sc : Nat → Nat} {sr : Nat → Nat → Nat} {M u1 : Mm} {r : Int32} {x0 : Int32} (h : RelL mc rc tc d b rs sc sr M) (hw : WR_base tc x0 M r u1) : mdL M u1 := by
  rcases hw with ⟨_, w, u0, hp, rfl⟩ | ⟨_, hp⟩
  · rw [show u0 = M from hp.2.2.2]; exact md_w md_rf
  · rw [show u1 = M from hp.2.2]; exact md_rf
theorem pq_base {mc rc tc d b : Nat} {rs sc : Nat → Nat} {sr : Nat → Nat → Nat} {M u1 u2 : Mm} {r bb : Int32} {x0 : Int32} (h : RelL mc rc tc d b rs sc sr M) (hw : WR_base tc x0 M r u1) (hm : PM_base tc x0 u1 bb u2) : CN r bb u2 := by
  rcases hw with ⟨rfl, w, u0, ⟨a1, a2, e1, e0⟩, rfl⟩ | ⟨rfl, _, hx, e0⟩
  · obtain rfl := e0.symm
    rcases hm with ⟨_, _, e2, rfl⟩ | ⟨hn, _⟩
    · have ht : vN x0 < tc := by rw [vN_toInt]; omega
      refine cn_r h ?_
      rw [e2, st_r _ _ _ (by decide), e1]; rw [rl_cbs h _ ht, rl_mbs h _ ht, rl_vals h _ ht]
    · exact absurd ⟨a1, a2⟩ hn
  · obtain rfl := e0.symm
    rcases hm with ⟨b1, b2, _⟩ | ⟨_, rfl⟩
    · omega
    · exact cn_f h (by decide)
theorem md_count {mc rc tc d b : Nat} {rs sc : Nat → Nat} {sr : Nat → Nat → Nat} {M u1 : Mm} {r : Int32} {x0 : Int32} (h : RelL mc rc tc d b rs sc sr M) (hw : WR_count tc x0 M r u1) : mdL M u1 := by
  rcases hw with ⟨_, w, u0, hp, rfl⟩ | ⟨_, hp⟩
  · rw [show u0 = M from hp.2.2.2]; exact md_w md_rf
  · rw [show u1 = M from hp.2.2]; exact md_rf
theorem pq_count {mc rc tc d b : Nat} {rs sc : Nat → Nat} {sr : Nat → Nat → Nat} {M u1 u2 : Mm} {r bb : Int32} {x0 : Int32} (h : RelL mc rc tc d b rs sc sr M) (hw : WR_count tc x0 M r u1) (hm : PM_count tc x0 u1 bb u2) : CN r bb u2 := by
  rcases hw with ⟨rfl, w, u0, ⟨a1, a2, e1, e0⟩, rfl⟩ | ⟨rfl, _, hx, e0⟩
  · obtain rfl := e0.symm
    rcases hm with ⟨_, _, e2, rfl⟩ | ⟨hn, _⟩
    · have ht : vN x0 < tc := by rw [vN_toInt]; omega
      refine cn_r h ?_
      rw [e2, st_r _ _ _ (by decide), e1]; rw [rl_ccn h, rl_mcn h]
    · exact absurd ⟨a1, a2⟩ hn
  · obtain rfl := e0.symm
    rcases hm with ⟨b1, b2, _⟩ | ⟨_, rfl⟩
    · omega
    · exact cn_f h (by decide)
theorem md_draft {mc rc tc d b : Nat} {rs sc : Nat → Nat} {sr : Nat → Nat → Nat} {M u1 : Mm} {r : Int32} {x0 : Int32} (h : RelL mc rc tc d b rs sc sr M) (hw : WR_draft d x0 M r u1) : mdL M u1 := by
  rcases hw with ⟨_, w, u0, hp, rfl⟩ | ⟨_, hp⟩
  · rw [show u0 = M from hp.2.2.2]; exact md_w md_rf
  · rw [show u1 = M from hp.2.2]; exact md_rf
theorem pq_draft {mc rc tc d b : Nat} {rs sc : Nat → Nat} {sr : Nat → Nat → Nat} {M u1 u2 : Mm} {r bb : Int32} {x0 : Int32} (h : RelL mc rc tc d b rs sc sr M) (hw : WR_draft d x0 M r u1) (hm : PM_draft d x0 u1 bb u2) : CN r bb u2 := by
  rcases hw with ⟨rfl, w, u0, ⟨a1, a2, e1, e0⟩, rfl⟩ | ⟨rfl, _, hx, e0⟩
  · obtain rfl := e0.symm
    rcases hm with ⟨_, _, e2, rfl⟩ | ⟨hn, _⟩
    · have ht : vN x0 < d := by rw [vN_toInt]; omega
      refine cn_r h ?_
      rw [e2, st_r _ _ _ (by decide), e1]; exact rl_drf h _ ht
    · exact absurd ⟨a1, a2⟩ hn
  · obtain rfl := e0.symm
    rcases hm with ⟨b1, b2, _⟩ | ⟨_, rfl⟩
    · omega
    · exact cn_f h (by decide)
theorem md_bundle {mc rc tc d b : Nat} {rs sc : Nat → Nat} {sr : Nat → Nat → Nat} {M u1 : Mm} {r : Int32} {x0 : Int32} (h : RelL mc rc tc d b rs sc sr M) (hw : WR_bundle b x0 M r u1) : mdL M u1 := by
  rcases hw with ⟨_, w, u0, hp, rfl⟩ | ⟨_, hp⟩
  · rw [show u0 = M from hp.2.2.2]; exact md_w md_rf
  · rw [show u1 = M from hp.2.2]; exact md_rf
theorem pq_bundle {mc rc tc d b : Nat} {rs sc : Nat → Nat} {sr : Nat → Nat → Nat} {M u1 u2 : Mm} {r bb : Int32} {x0 : Int32} (h : RelL mc rc tc d b rs sc sr M) (hw : WR_bundle b x0 M r u1) (hm : PM_bundle b x0 u1 bb u2) : CN r bb u2 := by
  rcases hw with ⟨rfl, w, u0, ⟨a1, a2, e1, e0⟩, rfl⟩ | ⟨rfl, _, hx, e0⟩
  · obtain rfl := e0.symm
    rcases hm with ⟨_, _, e2, rfl⟩ | ⟨hn, _⟩
    · have ht : vN x0 < b := by rw [vN_toInt]; omega
      refine cn_r h ?_
      rw [e2, st_r _ _ _ (by decide), e1]; exact rl_row h _ ht
    · exact absurd ⟨a1, a2⟩ hn
  · obtain rfl := e0.symm
    rcases hm with ⟨b1, b2, _⟩ | ⟨_, rfl⟩
    · omega
    · exact cn_f h (by decide)
theorem md_seen {mc rc tc d b : Nat} {rs sc : Nat → Nat} {sr : Nat → Nat → Nat} {M u1 : Mm} {r : Int32} {x0 : Int32} (h : RelL mc rc tc d b rs sc sr M) (hw : WR_seen tc x0 (sc (vN x0)) M r u1) : mdL M u1 := by
  rcases hw with ⟨_, w, u0, hp, rfl⟩ | ⟨_, hp⟩
  · rw [show u0 = M from hp.2.2.2]; exact md_w md_rf
  · rw [show u1 = M from hp.2.2]; exact md_rf
theorem pq_seen {mc rc tc d b : Nat} {rs sc : Nat → Nat} {sr : Nat → Nat → Nat} {M u1 u2 : Mm} {r bb : Int32} {x0 : Int32} (h : RelL mc rc tc d b rs sc sr M) (hw : WR_seen tc x0 (sc (vN x0)) M r u1) (hm : PM_seen tc x0 (sc (vN x0)) u1 bb u2) : CN r bb u2 := by
  rcases hw with ⟨rfl, w, u0, ⟨a1, a2, e1, e0⟩, rfl⟩ | ⟨rfl, _, hx, e0⟩
  · obtain rfl := e0.symm
    rcases hm with ⟨_, _, e2, rfl⟩ | ⟨hn, _⟩
    · have ht : vN x0 < tc := by rw [vN_toInt]; omega
      have f : ∀ j, j < sc (vN x0) → M (29 + 18 * vN x0 + 2 + 2 * j + 1) 1 = M 149 (8 * (8 * vN x0 + j) + 1) := fun j hj => rl_snu h _ ht j hj 1 (by omega)
      have f2 : M (5 + 1) 1 = M 150 1 := rl_drf h 1 (by have := rl_d2 h; omega)
      refine cn_r h (bP_eq ⟨fun ⟨j, hj, _, e⟩ => ⟨j, hj, ?_⟩, fun ⟨j, hj, e⟩ => ⟨j, hj, hj, ?_⟩⟩ e1 e2)
      · rw [st_r _ _ _ (by decide), st_r _ _ _ (by decide), ← f j hj, ← f2]; exact e
      · rw [st_r _ _ _ (by decide), st_r _ _ _ (by decide), ← f j hj, ← f2] at e; exact e
    · exact absurd ⟨a1, a2⟩ hn
  · obtain rfl := e0.symm
    rcases hm with ⟨b1, b2, _⟩ | ⟨_, rfl⟩
    · omega
    · exact cn_f h (by decide)
theorem md_recount {mc rc tc d b : Nat} {rs sc : Nat → Nat} {sr : Nat → Nat → Nat} {M u1 : Mm} {r : Int32} {x0 : Int32} (h : RelL mc rc tc d b rs sc sr M) (hw : WR_recount rc tc (sc (vN x0)) rs (sr (vN x0)) x0 M r u1) : mdL M u1 := by
  rcases hw with ⟨_, w, u0, hp, rfl⟩ | ⟨_, hp⟩
  · rw [show u0 = M from hp.2.2.2]; exact md_w md_rf
  · rw [show u1 = M from hp.2.2]; exact md_rf
theorem pq_recount {mc rc tc d b : Nat} {rs sc : Nat → Nat} {sr : Nat → Nat → Nat} {M u1 u2 : Mm} {r bb : Int32} {x0 : Int32} (h : RelL mc rc tc d b rs sc sr M) (hw : WR_recount rc tc (sc (vN x0)) rs (sr (vN x0)) x0 M r u1) (hm : PM_recount tc x0 rc (sc (vN x0)) rs (sr (vN x0)) u1 bb u2) : CN r bb u2 := by
  rcases hw with ⟨rfl, w, u0, ⟨a1, a2, e1, e0⟩, rfl⟩ | ⟨rfl, _, hx, e0⟩
  · obtain rfl := e0.symm
    rcases hm with ⟨_, _, e2, hs⟩ | ⟨hn, _⟩
    · have ht : vN x0 < tc := by rw [vN_toInt]; omega
      have f : ∀ j, j < sc (vN x0) → (swP rs (sr (vN x0)) (sc (vN x0)) (vN x0) M j ↔ mswP rs (sr (vN x0)) (vN x0) (st M 154 0 w) j) := fun j hj => (sw_iff h ht hj).trans msw_w.symm
      refine cn_s h hs ?_
      rcases e1 with ⟨p1, q1⟩ | ⟨k1, p1, n1, l1, q1⟩ <;> rcases e2 with ⟨p2, q2⟩ | ⟨k2, p2, n2, l2, q2⟩
      · rw [q1, q2]
      · exact absurd ((f k2 p2).mp (p1 k2 p2)) n2
      · exact absurd ((f k1 p1).mpr (p2 k1 p1)) n1
      · have e : k1 = k2 := by
          rcases Nat.lt_trichotomy k1 k2 with q | q | q
          · exact absurd ((f k1 p1).mpr (l2 k1 q)) n1
          · exact q
          · exact absurd ((f k2 p2).mp (l1 k2 q)) n2
        rw [q1, q2, e]
    · exact absurd ⟨a1, a2⟩ hn
  · obtain rfl := e0.symm
    rcases hm with ⟨b1, b2, _⟩ | ⟨_, rfl⟩
    · omega
    · exact cn_f h (by decide)
