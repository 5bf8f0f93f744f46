theorem M0_r {k : Nat} (h : 13 ≤ k) (h2 : k < 29) : M0 k = fun _ => 0 := by
  funext c
  unfold M0
  rw [if_neg (by omega), if_pos h2]
theorem M0_t {t j c : Nat} (ht : t < 6) (hj : j < 18) : M0 (29 + 18 * t + j) c = if j = 0 ∧ c = 1 then nI 4 else if j ≠ 0 ∧ j % 2 = 0 ∧ c = 1 then nI 2 else 0 := by
  have e1 : (29 + 18 * t + j - 29) % 18 = j := by omega
  have e2 : (29 + 18 * t + j - 29) % 2 = j % 2 := by omega
  unfold M0
  rw [if_neg (by omega), if_neg (by omega), if_pos (by omega), e1, e2]
def eqE (e g : va_E) : Prop := e = g ∨ ∃ c N f1 f2, e = eRef c N f1 ∧ g = eRef c N f2 ∧ ∀ j, j < N → f1 j = f2 j
theorem rp_a1 {cy u : Nat → Nat} {k : Nat} (h : k < 13) : ∃ e, (rpW cy u)[k]? = some (u k, e) ∧ eqE e (gE cy u k (M0 k)) := by
  rw [rpW_h h]
  rcases (show k = 0 ∨ k = 1 ∨ k = 2 ∨ k = 3 ∨ k = 4 ∨ k = 5 ∨ k = 6 ∨ k = 7 ∨ k = 8 ∨ k = 9 ∨ k = 10 ∨ k = 11 ∨ k = 12 by omega) with rfl | rfl | rfl | rfl | rfl | rfl | rfl | rfl | rfl | rfl | rfl | rfl | rfl
  · exact ⟨_, rfl, Or.inl rfl⟩
  · exact ⟨_, rfl, Or.inl rfl⟩
  · exact ⟨_, rfl, Or.inl rfl⟩
  · exact ⟨_, rfl, Or.inr ⟨_, _, _, _, rfl, rfl, fun j hj => if_pos hj⟩⟩
  · exact ⟨_, rfl, Or.inr ⟨_, _, _, _, rfl, rfl, fun j hj => if_pos hj⟩⟩
  · exact ⟨_, rfl, Or.inl rfl⟩
  · exact ⟨_, rfl, Or.inl rfl⟩
  · exact ⟨_, rfl, Or.inl rfl⟩
  · exact ⟨_, rfl, Or.inl rfl⟩
  · exact ⟨_, rfl, Or.inl rfl⟩
  · exact ⟨_, rfl, Or.inl rfl⟩
  · exact ⟨_, rfl, Or.inl rfl⟩
  · exact ⟨_, rfl, Or.inl rfl⟩
theorem rp_a2 {cy u : Nat → Nat} {i : Nat} (h : i < 8) : (∃ e, (rpW cy u)[13 + 2 * i]? = some (u (13 + 2 * i), e) ∧ eqE e (gE cy u (13 + 2 * i) (M0 (13 + 2 * i)))) ∧ ∃ e, (rpW cy u)[13 + (2 * i + 1)]? = some (u (13 + (2 * i + 1)), e) ∧ eqE e (gE cy u (13 + (2 * i + 1)) (M0 (13 + (2 * i + 1)))) := by
  obtain ⟨h1, h2⟩ := rgS_at (cy := cy) (u := u) 8 i h
  refine ⟨⟨_, (rpW_r (by omega)).trans h1, Or.inl ?_⟩, ⟨_, (rpW_r (by omega)).trans (h2.trans (by rw [show 14 + 2 * i = 13 + (2 * i + 1) by omega])), Or.inl ?_⟩⟩
  · rw [(kr_r cy u h).1, M0_r (by omega) (by omega), show 14 + 2 * i = 13 + 2 * i + 1 by omega]
  · rw [show 13 + (2 * i + 1) = 13 + 2 * i + 1 by omega, (kr_r cy u h).2, M0_r (by omega) (by omega)]
theorem rp_a3 {cy u : Nat → Nat} {t j : Nat} (ht : t < 6) (hj : j < 18) : ∃ e, (rpW cy u)[29 + (18 * t + j)]? = some (u (29 + (18 * t + j)), e) ∧ eqE e (gE cy u (29 + (18 * t + j)) (M0 (29 + (18 * t + j)))) := by
  have h0 := (rpW_t (cy := cy) (u := u) (k := 18 * t + j)).trans (tops_at hj 6 t ht)
  have hM : ∀ c, M0 (29 + (18 * t + j)) c = if j = 0 ∧ c = 1 then nI 4 else if j ≠ 0 ∧ j % 2 = 0 ∧ c = 1 then nI 2 else 0 := fun c => by
    rw [← Nat.add_assoc]; exact M0_t ht hj
  rw [h0]
  rcases (show j = 0 ∨ j = 1 ∨ ∃ i, i < 8 ∧ (j = 2 + 2 * i ∨ j = 2 + 2 * i + 1) by
    rcases Nat.lt_or_ge j 2 with h | h
    · omega
    · exact Or.inr (Or.inr ⟨(j - 2) / 2, by omega, by omega⟩)) with rfl | rfl | ⟨i, hi, rfl | rfl⟩
  · refine ⟨_, rfl, Or.inl ?_⟩
    show _ = gE cy u (29 + 18 * t) (M0 (29 + (18 * t + 0)))
    rw [(tp_t cy u ht).1]
    show _ = (.inr (3, [.int (M0 (29 + (18 * t + 0)) 0), .int (M0 (29 + (18 * t + 0)) 1), .int (M0 (29 + (18 * t + 0)) 2), .ref (u (29 + 18 * t + 1)), .int (M0 (29 + (18 * t + 0)) 4)]) : va_E)
    rw [hM 0, hM 1, hM 2, hM 4]
    rfl
  · refine ⟨_, rfl, Or.inr ⟨cy 4, 8, tpA (fun k => u (29 + 18 * t + k)) 8, fun i => some (u (29 + 18 * t + 2 + 2 * i)), rfl, (tp_t cy u ht).2.1 _, fun j hj => (if_pos hj).trans ?_⟩⟩
    show some (u (29 + 18 * t + (2 + 2 * j))) = _
    rw [show 29 + 18 * t + (2 + 2 * j) = 29 + 18 * t + 2 + 2 * j by omega]
  · have h1 := (tpS_at (cy := cy) (u := fun k => u (29 + 18 * t + k)) 8 i hi).1
    have hx : (tpC cy 8 (fun k => u (29 + 18 * t + k)))[2 + 2 * i]? = (tpS cy (fun k => u (29 + 18 * t + k)) 8)[2 * i]? := by rw [show 2 + 2 * i = 2 * i + 1 + 1 by omega]; rfl
    have hk : 29 + (18 * t + (2 + 2 * i)) = 29 + 18 * t + 2 + 2 * i := by omega
    have h3 := hx.trans h1
    have g1 : 29 + 18 * t + (2 + 2 * i) = 29 + 18 * t + 2 + 2 * i := by omega
    have g2 : 29 + 18 * t + (3 + 2 * i) = 29 + 18 * t + 2 + 2 * i + 1 := by omega
    have h4 : (tpC cy 8 (fun k => u (29 + 18 * t + k)))[2 + 2 * i]? = some (u (29 + 18 * t + 2 + 2 * i), .inr (2, [.ref (u (29 + 18 * t + 2 + 2 * i + 1)), .int (nI 2), .int 0, .int 0])) := by rw [← g2, ← g1]; exact h3
    have m1 := hM 1
    have m2 := hM 2
    have m3 := hM 3
    rw [hk] at m1 m2 m3 ⊢
    rw [if_neg (by omega), if_pos ⟨by omega, by omega, rfl⟩] at m1
    rw [if_neg (by omega), if_neg (by omega)] at m2 m3
    refine ⟨_, h4, Or.inl ?_⟩
    rw [((tp_t cy u ht).2.2 i hi).1]
    show _ = (.inr (2, [.ref (u (29 + 18 * t + 2 + 2 * i + 1)), .int (M0 (29 + 18 * t + 2 + 2 * i) 1), .int (M0 (29 + 18 * t + 2 + 2 * i) 2), .int (M0 (29 + 18 * t + 2 + 2 * i) 3)]) : va_E)
    rw [m1, m2, m3]
  · have h1 := (tpS_at (cy := cy) (u := fun k => u (29 + 18 * t + k)) 8 i hi).2
    have hx : (tpC cy 8 (fun k => u (29 + 18 * t + k)))[2 + 2 * i + 1]? = (tpS cy (fun k => u (29 + 18 * t + k)) 8)[2 * i + 1]? := by rw [show 2 + 2 * i + 1 = 2 * i + 1 + 1 + 1 by omega]; rfl
    have hk : 29 + (18 * t + (2 + 2 * i + 1)) = 29 + 18 * t + 2 + 2 * i + 1 := by omega
    have g2 : 29 + 18 * t + (3 + 2 * i) = 29 + 18 * t + 2 + 2 * i + 1 := by omega
    have h4 : (tpC cy 8 (fun k => u (29 + 18 * t + k)))[2 + 2 * i + 1]? = some (u (29 + 18 * t + 2 + 2 * i + 1), eInt (cy 0) 8 (fun _ => 0)) := by rw [← g2]; exact hx.trans h1
    have hz : M0 (29 + 18 * t + 2 + 2 * i + 1) = fun _ => 0 := by
      funext c
      have m := hM c
      rw [hk, if_neg (by omega), if_neg (by omega)] at m
      exact m
    rw [hk]
    refine ⟨_, h4, Or.inl ?_⟩
    rw [((tp_t cy u ht).2.2 i hi).2, hz]
theorem rp_all {cy u : Nat → Nat} {k : Nat} (h : k < 137) : ∃ e, (rpW cy u)[k]? = some (u k, e) ∧ eqE e (gE cy u k (M0 k)) := by
  rcases Nat.lt_or_ge k 13 with h1 | h1
  · exact rp_a1 h1
  · rcases Nat.lt_or_ge k 29 with h2 | h2
    · obtain ⟨i, hi, h3 | h3⟩ : ∃ i, i < 8 ∧ (k = 13 + 2 * i ∨ k = 13 + (2 * i + 1)) := ⟨(k - 13) / 2, by omega, by omega⟩
      · rw [h3]; exact (rp_a2 hi).1
      · rw [h3]; exact (rp_a2 hi).2
    · have h3 : k = 29 + (18 * ((k - 29) / 18) + (k - 29) % 18) := by omega
      rw [h3]; exact rp_a3 (by omega) (Nat.mod_lt _ (by decide))
theorem rpW_len {cy u : Nat → Nat} : (rpW cy u).length = 137 := by
  unfold rpW
  rw [List.length_append, List.length_append, rgS_len, tops_len]
  rfl
theorem rp_wd {D : va_G} {A : Nat → Prop} {cy u : Nat → Nat} {H : Heap} (hP : va_P D vwCl (rpW cy u) H) (hD : va_D A (rpW cy u)) : va_P D vwCl (wd cy u 137 M0) H ∧ va_D A (wd cy u 137 M0) := by
  have hw : ∀ k, k < 137 → (wd cy u 137 M0)[k]? = some (u k, gE cy u k (M0 k)) := fun k hk => by simp [wd, hk]
  refine ⟨fun k q hq => ?_, va_Dx (w1 := rpW cy u) ?_ hD⟩
  · have hk : k < 137 := by have := (List.getElem?_eq_some_iff.mp hq).1; rw [wd_len] at this; exact this
    rw [hw k hk] at hq
    cases hq
    obtain ⟨e, he, hx⟩ := rp_all (cy := cy) (u := u) hk
    have h1 := hP k _ he
    rcases hx with hx | ⟨c, N, f1, f2, e1, e2, hf⟩
    · rw [← hx]; exact h1
    · rw [e2]; rw [e1] at h1
      show H[u k]? = some (vp_cell c (N, .inr (.inr (.inr (.inr f2)))))
      rw [vp_cell_q, arrV_c (g := fun j => va_rf (f1 j)) (fun j hj => by rw [hf j hj])]
      exact h1
  · apply List.ext_getElem?
    intro k
    rw [List.getElem?_map, List.getElem?_map]
    rcases Nat.lt_or_ge k 137 with hk | hk
    · obtain ⟨e, he, -⟩ := rp_all (cy := cy) (u := u) hk
      rw [he, hw k hk]
      rfl
    · rw [List.getElem?_eq_none (by rw [rpW_len]; exact hk), List.getElem?_eq_none (by rw [wd_len]; exact hk)]
