theorem xm_vN {x : Int32} (k : Nat) (h : 0 ≤ x.toInt) : nI k * x = nI (k * vN x) := by
  conv => lhs; rw [x_vN h]
  exact pk_mul _ _
theorem xa_vN {x : Int32} (k : Nat) (h : 0 ≤ x.toInt) : nI k + x = nI (k + vN x) := by
  conv => lhs; rw [x_vN h]
  exact nI_add _ _
theorem mx_cg {M N : Mm} (k j : Nat) (v : Int32) (h : mxP M N) : mxP (st M k j v) (st N k j v) := by
  refine ⟨fun a ha => ?_, fun c hc => ?_⟩
  · funext b
    rw [st_at, st_at]
    by_cases e : a = k ∧ b = j
    · rw [if_pos e, if_pos e]
    · rw [if_neg e, if_neg e, h.1 a ha]
  · rw [st_at, st_at]
    by_cases e : 137 = k ∧ c = j
    · rw [if_pos e, if_pos e]
    · rw [if_neg e, if_neg e, h.2 c hc]
/-- rings, topics, what is stored: as the model keeps them -/
def mrP (rc : Nat) (rs : Nat → Nat) (M : Mm) : Prop := ∀ r, r < rc → M 141 r = nI (rs r) ∧ rs r ≤ 6 ∧ ∀ j, j < rs r → eltN (vN (M 142 (6 * r + j))) = true
def mbP (tc : Nat) (M : Mm) : Prop := ∀ t, t < tc → M 144 t = nI (tB (M 143 t))
def mtP (rc : Nat) (sr : Nat → Nat) (sc t : Nat) (M : Mm) : Prop := ∀ k, k < sc → M 147 (8 * t + k) = nI (sr k) ∧ sr k < rc
-- the arithmetic shift's low bits
theorem s_sm : ∀ i, i < 32 → ((nI i &&& 31).toBitVec.smod 32).toNat = i := by decide
theorem as_b {x : Int32} {i : Nat} (hi : i < 32) : (x >>> (nI i &&& 31)).toBitVec = x.toBitVec.sshiftRight i := by
  rw [Int32.toBitVec_shiftRight]
  show x.toBitVec.sshiftRight _ = _
  rw [s_sm i hi]
theorem us_b {x : Int32} {i : Nat} (hi : i < 32) : (uS x (nI i)).toBitVec = x.toBitVec >>> i := by
  show x.toBitVec >>> (((nI i).toUInt32 &&& Int32.toUInt32 31).toBitVec % 32).toNat = _
  rw [s_un i hi]
theorem as_1 {x : Int32} {i : Nat} (hi : i < 32) : (x >>> (nI i &&& 31)) &&& nI 1 = uS x (nI i) &&& nI 1 := by
  apply Int32.toBitVec_inj.mp
  rw [Int32.toBitVec_and, Int32.toBitVec_and, as_b hi, us_b hi]
  apply BitVec.eq_of_getLsbD_eq
  intro j hj
  rw [BitVec.getLsbD_and, BitVec.getLsbD_and]
  rcases Nat.eq_zero_or_pos j with h | h
  · subst h
    rw [BitVec.getLsbD_sshiftRight, BitVec.getLsbD_ushiftRight]
    simp [hi]
  · have e : (nI 1).toBitVec.getLsbD j = false := by
      have hd : ∀ j, j < 32 → 0 < j → (nI 1).toBitVec.getLsbD j = false := by decide
      exact hd j hj h
    rw [e, Bool.and_false, Bool.and_false]
theorem as_0 {x : Int32} {i : Nat} (hi : i < 32) : x >>> (nI i &&& 31) = 0 ↔ uS x (nI i) = 0 := by
  rw [← Int32.toBitVec_inj, ← Int32.toBitVec_inj (a := uS x (nI i)), as_b hi, us_b hi]
  constructor
  · intro h
    apply BitVec.eq_of_getLsbD_eq
    intro j hj
    have h2 := congrArg (fun b => b.getLsbD j) h
    simp only [BitVec.getLsbD_sshiftRight] at h2
    rw [BitVec.getLsbD_ushiftRight]
    by_cases e : i + j < 32
    · simp only [e, if_true, hj] at h2
      simpa [Nat.not_le.mpr hj] using h2
    · rw [BitVec.getLsbD_of_ge _ _ (by omega)]; simp
  · intro h
    apply BitVec.eq_of_getLsbD_eq
    intro j hj
    rw [BitVec.getLsbD_sshiftRight]
    by_cases e : i + j < 32
    · have h2 := congrArg (fun b => b.getLsbD j) h
      simp only [BitVec.getLsbD_ushiftRight] at h2
      rw [if_pos e]
      simp [Nat.not_le.mpr hj, h2]
    · have h2 := congrArg (fun b => b.getLsbD (31 - i)) h
      simp only [BitVec.getLsbD_ushiftRight] at h2
      rw [if_neg e, BitVec.msb_eq_getLsbD_last]
      rw [show i + (31 - i) = 31 by omega] at h2
      have hz : ∀ k, (Int32.toBitVec 0).getLsbD k = false := fun k => by show (0#32).getLsbD k = false; exact BitVec.getLsbD_zero
      have h3 : x.toBitVec.getLsbD 31 = false := h2.trans (hz _)
      rw [hz]
      show (_ && x.toBitVec.getLsbD 31) = false
      rw [h3, Bool.and_false]
theorem ch_01 {x : Int32} {i : Nat} : uS x (nI i) &&& nI 1 = nI 0 ∨ uS x (nI i) &&& nI 1 = nI 1 := by
  generalize uS x (nI i) = y
  have h : (y &&& nI 1).toBitVec = (y.toBitVec &&& 1#32) := rfl
  have h2 : (y.toBitVec &&& 1#32).toNat = y.toBitVec.toNat % 2 := by rw [BitVec.toNat_and]; exact Nat.and_one_is_mod _
  rcases Nat.mod_two_eq_zero_or_one y.toBitVec.toNat with e | e
  · exact Or.inl (Int32.toBitVec_inj.mp (BitVec.eq_of_toNat_eq (by rw [h, h2, e]; rfl)))
  · exact Or.inr (Int32.toBitVec_inj.mp (BitVec.eq_of_toNat_eq (by rw [h, h2, e]; rfl)))
theorem ch_add {x : Int32} {i : Nat} (hi : i < 32) : nI (chC x i) + ((x >>> (nI i &&& 31)) &&& nI 1) = nI (chC x (i + 1)) := by
  rw [as_1 hi]
  by_cases h : chB x i
  · rw [chC_1 h, show uS x (nI i) &&& nI 1 = nI 1 from h]; exact nI_1 _
  · rw [chC_0 h, ch_01.resolve_right h]; exact nI_add _ _
/-- the ring that is being filled -/
def rgQ (rc : Nat) (x : Int32) (i : Nat) (M N : Mm) : Prop := (∀ a, a ≠ 141 → a ≠ 142 → N a = M a) ∧ N 141 rc = nI (chC x i) ∧ (∀ b, b ≠ rc → N 141 b = M 141 b) ∧ (∀ b, b < 6 * rc → N 142 b = M 142 b) ∧ ∀ j, j < i → chB x j → N 142 (6 * rc + chC x j) = M 140 j
theorem rq_n {rc i : Nat} {x : Int32} {M N : Mm} (h0 : ¬ chB x i) (h : rgQ rc x i M N) : rgQ rc x (i + 1) M N := by
  obtain ⟨h1, h2, h3, h4, h5⟩ := h
  refine ⟨h1, by rw [h2, chC_0 h0], h3, h4, fun j hj hb => ?_⟩
  rcases Nat.lt_or_ge j i with h | h
  · exact h5 j h hb
  · rw [show j = i by omega] at hb; exact absurd hb h0
theorem rq_y {rc i : Nat} {x v : Int32} {M N : Mm} (h0 : chB x i) (hv : v = M 140 i) (h : rgQ rc x i M N) : rgQ rc x (i + 1) M (st (st N 142 (6 * rc + chC x i) v) 141 rc (nI (chC x i + 1))) := by
  obtain ⟨h1, h2, h3, h4, h5⟩ := h
  refine ⟨fun a h9 h8 => by rw [st_r _ _ _ h9, st_r _ _ _ h8]; exact h1 a h9 h8, by rw [st_s, chC_1 h0], fun b hb => by rw [st_c _ _ _ hb, st_r _ _ _ (by decide)]; exact h3 b hb, fun b hb => by rw [st_r _ _ _ (by decide), st_c _ _ _ (by omega)]; exact h4 b hb, fun j hj hb => ?_⟩
  rw [st_r _ _ _ (by decide)]
  rcases Nat.lt_or_ge j i with h | h
  · have hm : chC x (j + 1) ≤ chC x i := chC_mono x h
    rw [chC_1 hb] at hm
    rw [st_c _ _ _ (by omega)]; exact h5 j h hb
  · rw [show j = i by omega, st_s]; exact hv
