theorem rgS_len {cy u : Nat → Nat} : ∀ n, (rgS cy u n).length = 2 * n
  | 0 => rfl
  | n + 1 => by
    show (rgS cy u n ++ _).length = _
    rw [List.length_append, rgS_len n]
    show 2 * n + 2 = _
    omega
theorem tpS_len {cy u : Nat → Nat} : ∀ n, (tpS cy u n).length = 2 * n
  | 0 => rfl
  | n + 1 => by
    show (tpS cy u n ++ _).length = _
    rw [List.length_append, tpS_len n]
    show 2 * n + 2 = _
    omega
theorem tpC_len {cy u : Nat → Nat} : (tpC cy 8 u).length = 18 := by
  show (tpS cy u 8).length + 1 + 1 = 18
  rw [tpS_len]
theorem tops_len {cy u : Nat → Nat} : ∀ n, (tops cy u n).length = 18 * n
  | 0 => rfl
  | n + 1 => by
    show (tops cy u n ++ _).length = _
    rw [List.length_append, tops_len n, tpC_len]
    omega
theorem rgS_at {cy u : Nat → Nat} : ∀ n i, i < n → (rgS cy u n)[2 * i]? = some (u (13 + 2 * i), .inr (1, [.ref (u (14 + 2 * i)), .int 0])) ∧ (rgS cy u n)[2 * i + 1]? = some (u (14 + 2 * i), eInt (cy 0) 6 (fun _ => 0))
  | 0, i, h => absurd h (Nat.not_lt_zero i)
  | n + 1, i, h => by
    rcases Nat.lt_or_ge i n with hi | hi
    · show (rgS cy u n ++ _)[2 * i]? = _ ∧ (rgS cy u n ++ _)[2 * i + 1]? = _
      rw [List.getElem?_append_left (by rw [rgS_len]; omega), List.getElem?_append_left (by rw [rgS_len]; omega)]
      exact rgS_at n i hi
    · have e : i = n := by omega
      subst e
      show (rgS cy u i ++ _)[2 * i]? = _ ∧ (rgS cy u i ++ _)[2 * i + 1]? = _
      rw [List.getElem?_append_right (by rw [rgS_len]; omega), List.getElem?_append_right (by rw [rgS_len]; omega), rgS_len, Nat.sub_self, Nat.add_sub_cancel_left]
      exact ⟨rfl, rfl⟩
theorem tpS_at {cy u : Nat → Nat} : ∀ n i, i < n → (tpS cy u n)[2 * i]? = some (u (2 + 2 * i), .inr (2, [.ref (u (3 + 2 * i)), .int (nI 2), .int 0, .int 0])) ∧ (tpS cy u n)[2 * i + 1]? = some (u (3 + 2 * i), eInt (cy 0) 8 (fun _ => 0))
  | 0, i, h => absurd h (Nat.not_lt_zero i)
  | n + 1, i, h => by
    rcases Nat.lt_or_ge i n with hi | hi
    · show (tpS cy u n ++ _)[2 * i]? = _ ∧ (tpS cy u n ++ _)[2 * i + 1]? = _
      rw [List.getElem?_append_left (by rw [tpS_len]; omega), List.getElem?_append_left (by rw [tpS_len]; omega)]
      exact tpS_at n i hi
    · have e : i = n := by omega
      subst e
      show (tpS cy u i ++ _)[2 * i]? = _ ∧ (tpS cy u i ++ _)[2 * i + 1]? = _
      rw [List.getElem?_append_right (by rw [tpS_len]; omega), List.getElem?_append_right (by rw [tpS_len]; omega), tpS_len, Nat.sub_self, Nat.add_sub_cancel_left]
      exact ⟨rfl, rfl⟩
theorem tops_at {cy u : Nat → Nat} {j : Nat} (hj : j < 18) : ∀ n i, i < n → (tops cy u n)[18 * i + j]? = (tpC cy 8 (fun k => u (29 + 18 * i + k)))[j]?
  | 0, i, h => absurd h (Nat.not_lt_zero i)
  | n + 1, i, h => by
    rcases Nat.lt_or_ge i n with hi | hi
    · show (tops cy u n ++ _)[18 * i + j]? = _
      rw [List.getElem?_append_left (by rw [tops_len]; omega)]
      exact tops_at hj n i hi
    · have e : i = n := by omega
      subst e
      show (tops cy u i ++ _)[18 * i + j]? = _
      rw [List.getElem?_append_right (by rw [tops_len]; omega), tops_len, Nat.add_sub_cancel_left]
def rpW (cy u : Nat → Nat) : va_W := rpH cy u (rgA u 8) (tpB u 6) ++ rgS cy u 8 ++ tops cy u 6
theorem rpW_h {cy u : Nat → Nat} {k : Nat} (h : k < 13) : (rpW cy u)[k]? = (rpH cy u (rgA u 8) (tpB u 6))[k]? := by
  unfold rpW
  rw [List.append_assoc, List.getElem?_append_left (by exact h)]
theorem rpW_r {cy u : Nat → Nat} {k : Nat} (h : k < 16) : (rpW cy u)[13 + k]? = (rgS cy u 8)[k]? := by
  unfold rpW
  have e : (rpH cy u (rgA u 8) (tpB u 6)).length = 13 := rfl
  rw [List.append_assoc, List.getElem?_append_right (by rw [e]; omega), e, Nat.add_sub_cancel_left, List.getElem?_append_left (by rw [rgS_len]; omega)]
theorem rpW_t {cy u : Nat → Nat} {k : Nat} : (rpW cy u)[29 + k]? = (tops cy u 6)[k]? := by
  have e : (rpH cy u (rgA u 8) (tpB u 6) ++ rgS cy u 8).length = 29 := by rw [List.length_append, rgS_len]; rfl
  unfold rpW
  rw [List.getElem?_append_right (by rw [e]; omega), e, Nat.add_sub_cancel_left]
