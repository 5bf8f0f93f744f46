/-- the bundle's row behind: what stands in it is told by a function, for its first b places -/
def bdP (M N : Mm) (b : Nat) (f : Nat → Int32) : Prop := (∀ a, a ≠ 0 → a ≠ 7 → N a = M a) ∧ (∀ c, c ≠ 7 → N 0 c = M 0 c) ∧ N 0 7 = nI b ∧ ∀ j, j < b → N 7 j = f j
theorem bd_put {M N : Mm} {b : Nat} {f : Nat → Int32} {x : Int32} (h : bdP M N b f) : bdP M (st (st N 7 b x) 0 7 (nI (b + 1))) (b + 1) (upd f b x) := by
  obtain ⟨h1, h2, h3, h4⟩ := h
  refine ⟨fun a a0 a7 => by rw [st_r _ _ _ a0, st_r _ _ _ a7]; exact h1 a a0 a7, fun c hc => by rw [st_c _ _ _ hc, st_r _ _ _ (by decide)]; exact h2 c hc, st_s _ _ _ _, fun j hj => ?_⟩
  rw [st_r _ _ _ (by decide)]
  by_cases e : j = b
  · subst e; rw [st_s, pk_us]
  · rw [st_c _ _ _ e, pk_un e]; exact h4 j (by omega)
theorem bd_cong {M N : Mm} {b : Nat} {f g : Nat → Int32} (h : bdP M N b f) (hg : ∀ j, j < b → f j = g j) : bdP M N b g := ⟨h.1, h.2.1, h.2.2.1, fun j hj => (h.2.2.2 j hj).trans (hg j hj)⟩
theorem bd_tr {M N O : Mm} {b b' : Nat} {f g : Nat → Int32} (h : bdP M N b f) (h2 : bdP N O b' g) : bdP M O b' g := ⟨fun a a0 a7 => (h2.1 a a0 a7).trans (h.1 a a0 a7), fun c hc => (h2.2.1 c hc).trans (h.2.1 c hc), h2.2.2⟩
/-- one signature's piece: n, the keys, the motion, the numbers; on b places of f -/
def pcF (f : Nat → Int32) (b z : Nat) (y : Nat → Int32) (mo : Int32) (num : Nat → Int32) : Nat → Int32 := fun j =>
  if j < b then f j else if j = b then nI z else if j < b + 1 + z then y (j - (b + 1)) else if j = b + 1 + z then mo else num (j - (b + 2 + z))
/-- the ints of a topic's bundle: its value, how many, the pieces -/
def boN (sz : Nat → Nat) : Nat → Nat
  | 0 => 2
  | k + 1 => boN sz k + (4 + 2 * sz k)
def bfF (v0 v1 : Int32) (sz : Nat → Nat) (y : Nat → Nat → Int32) (mo : Nat → Int32) (num : Nat → Nat → Int32) : Nat → Nat → Int32
  | 0 => fun j => if j = 0 then v0 else v1
  | k + 1 => pcF (bfF v0 v1 sz y mo num k) (boN sz k) (sz k) (y k) (mo k) (num k)
theorem bo_le {sz : Nat → Nat} (h : ∀ k, sz k ≤ 6) : ∀ k, boN sz k ≤ 2 + 16 * k
  | 0 => by show 2 ≤ _; omega
  | k + 1 => by
    have := bo_le h k; have := h k
    show boN sz k + (4 + 2 * sz k) ≤ _
    omega
theorem pc_0 {f : Nat → Int32} {b z j : Nat} {y : Nat → Int32} {mo : Int32} {num : Nat → Int32} (h : j < b + 1) : upd f b (nI z) j = pcF f b z y mo num j := by
  unfold pcF upd
  by_cases e : j = b
  · rw [if_pos e, if_neg (by omega), if_pos e]
  · rw [if_neg e, if_pos (by omega)]
theorem pc_1 {f : Nat → Int32} {b z i j : Nat} {y : Nat → Int32} {mo : Int32} {num : Nat → Int32} (h : j < b + 1 + i + 1) (hi : i < z) : upd (pcF f b z y mo num) (b + 1 + i) (y i) j = pcF f b z y mo num j := by
  unfold upd
  by_cases e : j = b + 1 + i
  · rw [if_pos e]; unfold pcF; rw [if_neg (by omega), if_neg (by omega), if_pos (by omega), show j - (b + 1) = i by omega]
  · rw [if_neg e]
theorem pc_2 {f : Nat → Int32} {b z i j : Nat} {y : Nat → Int32} {mo : Int32} {num : Nat → Int32} (h : j < b + 1 + i + 1) (hi : i = z) : upd (pcF f b z y mo num) (b + 1 + i) mo j = pcF f b z y mo num j := by
  unfold upd
  by_cases e : j = b + 1 + i
  · rw [if_pos e]; unfold pcF; rw [if_neg (by omega), if_neg (by omega), if_neg (by omega), if_pos (by omega)]
  · rw [if_neg e]
theorem pc_3 {f : Nat → Int32} {b z i j : Nat} {y : Nat → Int32} {mo : Int32} {num : Nat → Int32} (h : j < b + 2 + z + i + 1) (hi : 0 ≤ i) : upd (pcF f b z y mo num) (b + 2 + z + i) (num i) j = pcF f b z y mo num j := by
  unfold upd
  by_cases e : j = b + 2 + z + i
  · rw [if_pos e]; unfold pcF; rw [if_neg (by omega), if_neg (by omega), if_neg (by omega), if_neg (by omega), show j - (b + 2 + z) = i by omega]
  · rw [if_neg e]
theorem bd_self {M N : Mm} {b : Nat} {f : Nat → Int32} (h : bdP M N b f) : bdP N N b f := ⟨fun _ _ _ => rfl, fun _ _ => rfl, h.2.2.1, h.2.2.2⟩
theorem bf_0 {v0 v1 : Int32} {sz : Nat → Nat} {y : Nat → Nat → Int32} {mo : Nat → Int32} {num : Nat → Nat → Int32} {j : Nat} {g : Nat → Int32} (h : j < 0 + 1 + 1) : upd (upd g 0 v0) (0 + 1) v1 j = bfF v0 v1 sz y mo num 0 j := by
  rcases (show j = 0 ∨ j = 1 by omega) with rfl | rfl <;> simp [bfF, upd]
