theorem fm_bnd {u sn c : Nat} (hu : u < 1013) (hs : sn < 1013) (hc : c < 1013) : -1073741824 < (nI u - nI (sn * c)).toInt ∧ (nI u - nI (sn * c)).toInt < 1073741824 ∧ ((nI u - nI (sn * c)).toInt % 1013).toNat = lsN u (sn * c) := by
  have hm : sn * c < 1013 * 1013 := Nat.mul_lt_mul'' hs hc
  generalize sn * c = m at hm ⊢
  have h := pk_sub_toInt (a := u) (b := m) (by omega) (by omega)
  rw [h]
  exact ⟨by omega, by omega, ls_eq hu⟩
def pvI (z : Nat) (y : Nat → Int32) (v mo : Int32) (B sn p kg : Nat) (M : Mm) (k : Nat) (N : Mm) : Prop :=
  (∀ a, a ≠ kg → a ≠ kg + 1 → N a = M a) ∧ N kg 1 = nI (2 + z) ∧ (∀ b, b ≠ 1 → N kg b = M kg b) ∧ N (kg + 1) 1 = nI (B ^ sn % 2027) ∧
  (z - 1 - p < k → N (kg + 1) 0 = nI (snC (stmI z y v mo (nI (B ^ sn % 2027))) B (B ^ sn % 2027) y (nI sn) v mo z p (ncN (nI sn) v mo p) (z - 1 - p))) ∧
  ∀ j, j < k → N (kg + 1) (2 + plN z p j) = nI (ncN (nI sn) v mo (plN z p j))
section PV
variable {z : Nat} {y : Nat → Int32} {v mo : Int32} {B sn p kg k : Nat} {M N : Mm}
theorem pv_0 : pvI z y v mo B sn p kg M 0 (st (st M kg 1 (nI (2 + z))) (kg + 1) 1 (nI (B ^ sn % 2027))) := by
  refine ⟨fun a h1 h2 => by rw [st_r _ _ _ h2, st_r _ _ _ h1], ?_, fun b hb => ?_, st_s _ _ _ _, fun h => absurd h (Nat.not_lt_zero _), fun j h => absurd h (Nat.not_lt_zero _)⟩
  · rw [st_r _ _ _ (show kg ≠ kg + 1 by omega), st_s]
  · rw [st_r _ _ _ (show kg ≠ kg + 1 by omega), st_c _ _ _ hb]
theorem pv_s1 (hp : p < z) (hk : k + 1 < z) (h0 : plN z p k ≠ 0) (h : pvI z y v mo B sn p kg M k N) : pvI z y v mo B sn p kg M (k + 1) (st N (kg + 1) (2 + plN z p k) (nI (ncN (nI sn) v mo (plN z p k)))) := by
  obtain ⟨h1, h2, h3, h4, h5, h6⟩ := h
  refine ⟨fun a a1 a2 => by rw [st_r _ _ _ a2]; exact h1 a a1 a2, ?_, fun b hb => ?_, ?_, fun q => ?_, fun j hj => ?_⟩
  · rw [st_r _ _ _ (show kg ≠ kg + 1 by omega)]; exact h2
  · rw [st_r _ _ _ (show kg ≠ kg + 1 by omega)]; exact h3 b hb
  · rw [st_c _ _ _ (show 1 ≠ 2 + plN z p k by omega)]; exact h4
  · rw [st_c _ _ _ (show 0 ≠ 2 + plN z p k by omega)]
    refine h5 ?_
    have := mt (plN_z hp (show k < z by omega)).mpr h0
    omega
  · by_cases e : j = k
    · subst e; rw [st_s]
    · have hne : plN z p j ≠ plN z p k := fun q => e (plN_inj hp (by omega) (by omega) q)
      rw [st_c _ _ _ (show 2 + plN z p j ≠ 2 + plN z p k by omega)]
      exact h6 j (by omega)
theorem pv_c0 (hp : p < z) (hk : k < z) (h0 : plN z p k = 0) (h : pvI z y v mo B sn p kg M k N) : pvI z y v mo B sn p kg M k (st N (kg + 1) 0 (nI (snC (stmI z y v mo (nI (B ^ sn % 2027))) B (B ^ sn % 2027) y (nI sn) v mo z p (ncN (nI sn) v mo p) k))) ∧ k = z - 1 - p := by
  obtain ⟨h1, h2, h3, h4, h5, h6⟩ := h
  have hkz := (plN_z hp hk).mp h0
  refine ⟨⟨fun a a1 a2 => by rw [st_r _ _ _ a2]; exact h1 a a1 a2, ?_, fun b hb => ?_, ?_, fun q => ?_, fun j hj => ?_⟩, hkz⟩
  · rw [st_r _ _ _ (show kg ≠ kg + 1 by omega)]; exact h2
  · rw [st_r _ _ _ (show kg ≠ kg + 1 by omega)]; exact h3 b hb
  · rw [st_c _ _ _ (show 1 ≠ 0 by omega)]; exact h4
  · omega
  · rw [st_c _ _ _ (show 2 + plN z p j ≠ 0 by omega)]; exact h6 j hj
theorem pv_s0 (hp : p < z) (hk : k + 1 < z) (h0 : plN z p k = 0) (h : pvI z y v mo B sn p kg M k N) : pvI z y v mo B sn p kg M (k + 1) (st (st N (kg + 1) 0 (nI (snC (stmI z y v mo (nI (B ^ sn % 2027))) B (B ^ sn % 2027) y (nI sn) v mo z p (ncN (nI sn) v mo p) k))) (kg + 1) (2 + plN z p k) (nI (ncN (nI sn) v mo (plN z p k)))) := by
  obtain ⟨⟨h1, h2, h3, h4, h5, h6⟩, hkz⟩ := pv_c0 hp (by omega) h0 h
  refine ⟨fun a a1 a2 => by rw [st_r _ _ _ a2]; exact h1 a a1 a2, ?_, fun b hb => ?_, ?_, fun q => ?_, fun j hj => ?_⟩
  · rw [st_r _ _ _ (show kg ≠ kg + 1 by omega)]; exact h2
  · rw [st_r _ _ _ (show kg ≠ kg + 1 by omega)]; exact h3 b hb
  · rw [st_c _ _ _ (show 1 ≠ 2 + plN z p k by omega)]; exact h4
  · rw [st_c _ _ _ (show 0 ≠ 2 + plN z p k by omega), st_s, hkz]
  · by_cases e : j = k
    · subst e; rw [st_s]
    · have hne : plN z p j ≠ plN z p k := fun q => e (plN_inj hp (by omega) (by omega) q)
      rw [st_c _ _ _ (show 2 + plN z p j ≠ 2 + plN z p k by omega)]
      exact h6 j (by omega)
/-- the end: what signing leaves -/
def pvE (z : Nat) (y : Nat → Int32) (v mo : Int32) (B sn p kg : Nat) (M N : Mm) : Prop := (∀ a, a ≠ kg → a ≠ kg + 1 → N a = M a) ∧ N kg 1 = nI (2 + z) ∧ (∀ b, b ≠ 1 → N kg b = M kg b) ∧ sgN z y v mo B sn p (N (kg + 1))
theorem pv_f1 (hp : p < z) (hk : k + 1 = z) (h0 : p ≠ 0) (h : pvI z y v mo B sn p kg M k N) : pvE z y v mo B sn p kg M (st N (kg + 1) (2 + p) (nI (lsN (ncN (nI sn) v mo p) (sn * snC (stmI z y v mo (nI (B ^ sn % 2027))) B (B ^ sn % 2027) y (nI sn) v mo z p (ncN (nI sn) v mo p) k)))) := by
  obtain ⟨h1, h2, h3, h4, h5, h6⟩ := h
  have hkz : k = z - 1 := by omega
  refine ⟨fun a a1 a2 => by rw [st_r _ _ _ a2]; exact h1 a a1 a2, ?_, fun b hb => ?_, ?_, ?_, ?_, fun j hj hne => ?_⟩
  · rw [st_r _ _ _ (show kg ≠ kg + 1 by omega)]; exact h2
  · rw [st_r _ _ _ (show kg ≠ kg + 1 by omega)]; exact h3 b hb
  · rw [st_c _ _ _ (show 1 ≠ 2 + p by omega)]; exact h4
  · rw [st_c _ _ _ (show 0 ≠ 2 + p by omega)]; exact h5 (by omega)
  · rw [st_s, hkz]
  · obtain ⟨i, hi, e⟩ := plN_sur hp hj hne
    rw [st_c _ _ _ (show 2 + j ≠ 2 + p by omega), ← e]
    exact h6 i (by omega)
theorem pv_f0 (hp : p < z) (hk : k + 1 = z) (h0 : p = 0) (h : pvI z y v mo B sn p kg M k N) : pvE z y v mo B sn p kg M (st (st N (kg + 1) 0 (nI (snC (stmI z y v mo (nI (B ^ sn % 2027))) B (B ^ sn % 2027) y (nI sn) v mo z p (ncN (nI sn) v mo p) k))) (kg + 1) (2 + p) (nI (lsN (ncN (nI sn) v mo p) (sn * snC (stmI z y v mo (nI (B ^ sn % 2027))) B (B ^ sn % 2027) y (nI sn) v mo z p (ncN (nI sn) v mo p) k)))) := by
  obtain ⟨h1, h2, h3, h4, h5, h6⟩ := h
  have hkz : k = z - 1 - p := by omega
  refine ⟨fun a a1 a2 => by rw [st_r _ _ _ a2, st_r _ _ _ a2]; exact h1 a a1 a2, ?_, fun b hb => ?_, ?_, ?_, ?_, fun j hj hne => ?_⟩
  · rw [st_r _ _ _ (show kg ≠ kg + 1 by omega), st_r _ _ _ (show kg ≠ kg + 1 by omega)]; exact h2
  · rw [st_r _ _ _ (show kg ≠ kg + 1 by omega), st_r _ _ _ (show kg ≠ kg + 1 by omega)]; exact h3 b hb
  · rw [st_c _ _ _ (show 1 ≠ 2 + p by omega), st_c _ _ _ (show 1 ≠ 0 by omega)]; exact h4
  · rw [st_c _ _ _ (show 0 ≠ 2 + p by omega), st_s, ← hkz]
  · rw [st_s, show z - 1 = k by omega]
  · obtain ⟨i, hi, e⟩ := plN_sur hp hj hne
    rw [st_c _ _ _ (show 2 + j ≠ 2 + p by omega), st_c _ _ _ (show 2 + j ≠ 0 by omega), ← e]
    exact h6 i (by omega)
end PV
theorem va_Dx {A : Nat → Prop} {w1 w2 : va_W} (e : w1.map Prod.fst = w2.map Prod.fst) (h : va_D A w1) : va_D A w2 := by
  have key : ∀ (i : Nat) (p : Nat × va_E), w2[i]? = some p → ∃ q : Nat × va_E, w1[i]? = some q ∧ q.1 = p.1 := by
    intro i p hp
    have h1 : (w2.map Prod.fst)[i]? = some p.1 := by rw [List.getElem?_map, hp]; rfl
    rw [← e, List.getElem?_map] at h1
    cases h2 : w1[i]? with
    | none => rw [h2] at h1; cases h1
    | some q => rw [h2] at h1; exact ⟨q, rfl, Option.some.inj h1⟩
  refine ⟨fun i j p q hp hq e => ?_, fun k q hq => ?_⟩
  · obtain ⟨p', hp', ep⟩ := key i p hp
    obtain ⟨q', hq', eq⟩ := key j q hq
    exact h.1 i j p' q' hp' hq' (by rw [ep, eq]; exact e)
  · obtain ⟨q', hq', eq⟩ := key k q hq
    rw [← eq]
    exact h.2 k q' hq'
theorem wd_fst (cy ad : Nat → Nat) (n : Nat) (M : Mm) : (wd cy ad n M).map Prod.fst = (List.range n).map ad := by simp [wd]
theorem wd_Dx {A : Nat → Prop} {cy ad : Nat → Nat} {n q : Nat} {M M' : Mm} {e e' : va_E} (h : va_D A (wd cy ad n M ++ [(q, e)])) : va_D A (wd cy ad n M' ++ [(q, e')]) := va_Dx (by simp only [List.map_append, wd_fst]; rfl) h
theorem wd_exset {cy ad : Nat → Nat} {n : Nat} {M : Mm} {q q' : Nat × va_E} : (wd cy ad n M ++ [q]).set n q' = wd cy ad n M ++ [q'] := by
  rw [List.set_append_right _ _ (by rw [wd_len]; exact Nat.le_refl _), wd_len, Nat.sub_self]; rfl
theorem va_pre {D : va_G} {cl : List vw_C} {a b : va_W} {H : Heap} (h : va_P D cl (a ++ b) H) : va_P D cl (a ++ []) H := by
  intro k q hk
  rw [List.append_nil] at hk
  exact h k q (by rw [List.getElem?_append_left (List.getElem?_eq_some_iff.mp hk).1]; exact hk)
