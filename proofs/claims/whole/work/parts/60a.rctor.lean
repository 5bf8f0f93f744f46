def rpH (cy u : Nat → Nat) (f3 f4 : Nat → Option Nat) : va_W := [(u 0, .inr (4, [.ref (u 1), .ref (u 3), .int 0, .ref (u 4), .int 0, .ref (u 5), .ref (u 7), .int 0, .ref (u 8), .ref (u 10), .ref (u 12)])), (u 1, .inr (1, [.ref (u 2), .int 0])), (u 2, eInt (cy 0) 12 (fun _ => 0)), (u 3, eRef (cy 3) 8 f3), (u 4, eRef (cy 5) 6 f4), (u 5, .inr (2, [.ref (u 6), .int (nI 2), .int 0, .int 0])), (u 6, eInt (cy 0) 8 (fun _ => 0)), (u 7, eInt (cy 0) 200 (fun _ => 0)), (u 8, .inr (1, [.ref (u 9), .int 0])), (u 9, eInt (cy 0) 6 (fun _ => 0)), (u 10, .inr (2, [.ref (u 11), .int (nI 2), .int 0, .int 0])), (u 11, eInt (cy 0) 8 (fun _ => 0)), (u 12, eInt (cy 0) 8 (fun _ => 0))]
def rgS (cy u : Nat → Nat) : Nat → va_W
  | 0 => []
  | i + 1 => rgS cy u i ++ [(u (13 + 2 * i), .inr (1, [.ref (u (14 + 2 * i)), .int 0])), (u (14 + 2 * i), eInt (cy 0) 6 (fun _ => 0))]
def rgA (u : Nat → Nat) (i : Nat) : Nat → Option Nat := fun j => if j < i then some (u (13 + 2 * j)) else none
def tpB (u : Nat → Nat) (i : Nat) : Nat → Option Nat := fun j => if j < i then some (u (29 + 18 * j)) else none
def tops (cy u : Nat → Nat) : Nat → va_W
  | 0 => []
  | i + 1 => tops cy u i ++ tpC cy 8 (fun j => u (29 + 18 * i + j))
def rgU (u : Nat → Nat) (i a k : Nat) : Nat → Nat := fun j => if j = 13 + 2 * i then a else if j = 14 + 2 * i then k else u j
def tpV (u : Nat → Nat) (i : Nat) (v : Nat → Nat) : Nat → Nat := fun j => if 29 + 18 * i ≤ j then v (j - (29 + 18 * i)) else u j
theorem rgU_lt {u : Nat → Nat} {i a k j : Nat} (h : j < 13 + 2 * i) : rgU u i a k j = u j := by unfold rgU; rw [if_neg (by omega), if_neg (by omega)]
theorem tpV_lt {u v : Nat → Nat} {i j : Nat} (h : j < 29 + 18 * i) : tpV u i v j = u j := by unfold tpV; rw [if_neg (by omega)]
theorem tpV_ge {u v : Nat → Nat} {i j : Nat} : tpV u i v (29 + 18 * i + j) = v j := by unfold tpV; rw [if_pos (by omega), Nat.add_sub_cancel_left]
theorem rpH_c {cy u u' : Nat → Nat} {f3 f4 : Nat → Option Nat} (h : ∀ j, j < 13 → u' j = u j) : rpH cy u' f3 f4 = rpH cy u f3 f4 := by
  unfold rpH
  rw [h 0 (by decide), h 1 (by decide), h 2 (by decide), h 3 (by decide), h 4 (by decide), h 5 (by decide), h 6 (by decide), h 7 (by decide), h 8 (by decide), h 9 (by decide), h 10 (by decide), h 11 (by decide), h 12 (by decide)]
theorem rgS_c {cy u u' : Nat → Nat} : ∀ i, (∀ j, j < 13 + 2 * i → u' j = u j) → rgS cy u' i = rgS cy u i
  | 0, _ => rfl
  | i + 1, h => by
    unfold rgS
    rw [rgS_c i (fun j hj => h j (by omega)), h (13 + 2 * i) (by omega), h (14 + 2 * i) (by omega)]
theorem rgA_c {u u' : Nat → Nat} {i : Nat} (h : ∀ j, j < 13 + 2 * i → u' j = u j) : rgA u' i = rgA u i := by
  funext j
  unfold rgA
  by_cases e : j < i
  · rw [if_pos e, if_pos e, h _ (by omega)]
  · rw [if_neg e, if_neg e]
theorem tpC_c {cy u u' : Nat → Nat} (h : ∀ j, j < 18 → u' j = u j) : tpC cy 8 u' = tpC cy 8 u := by
  have e : tpA u' 8 = tpA u 8 := by
    funext j
    unfold tpA
    by_cases e : j < 8
    · rw [if_pos e, if_pos e, h _ (by omega)]
    · rw [if_neg e, if_neg e]
  unfold tpC
  rw [h 0 (by decide), h 1 (by decide), e, tpS_c 8 (fun j hj => h j (by omega))]
theorem tops_c {cy u u' : Nat → Nat} : ∀ i, (∀ j, j < 29 + 18 * i → u' j = u j) → tops cy u' i = tops cy u i
  | 0, _ => rfl
  | i + 1, h => by
    unfold tops
    rw [tops_c i (fun j hj => h j (by omega)), tpC_c (fun j hj => h (29 + 18 * i + j) (by omega))]
theorem rp_r {cy u : Nat → Nat} {i a k : Nat} {f4 : Nat → Option Nat} : ((rpH cy u (rgA u i) f4 ++ rgS cy u i) ++ [(a, .inr (1, [.ref k, .int 0])), (k, eInt (cy 0) 6 (fun _ => 0))]).set 3 (u 3, eRef (cy 3) 8 (va_up (rgA u i) i (some a))) = rpH cy (rgU u i a k) (rgA (rgU u i a k) (i + 1)) f4 ++ rgS cy (rgU u i a k) (i + 1) := by
  have e2 : rgU u i a k (13 + 2 * i) = a := by unfold rgU; rw [if_pos rfl]
  have e3 : rgU u i a k (14 + 2 * i) = k := by unfold rgU; rw [if_neg (by omega), if_pos rfl]
  have eA : rgA (rgU u i a k) (i + 1) = va_up (rgA u i) i (some a) := by
    funext j
    unfold rgA va_up
    by_cases e : j = i
    · subst e; rw [if_pos (by omega), if_pos rfl, e2]
    · rw [if_neg e]
      show _ = if j < i then some (u (13 + 2 * j)) else none
      by_cases h : j < i
      · rw [if_pos h, if_pos (by omega), rgU_lt (by omega)]
      · rw [if_neg h, if_neg (by omega)]
  have eS : rgS cy (rgU u i a k) (i + 1) = rgS cy u i ++ [(a, .inr (1, [.ref k, .int 0])), (k, eInt (cy 0) 6 (fun _ => 0))] := by
    show rgS cy (rgU u i a k) i ++ _ = _
    rw [rgS_c i (fun j hj => rgU_lt hj), e2, e3]
  rw [eA, eS, rpH_c (fun j hj => rgU_lt (by omega)), List.append_assoc]
  rfl
theorem rp_t {cy u v : Nat → Nat} {i : Nat} : ((rpH cy u (rgA u 8) (tpB u i) ++ rgS cy u 8 ++ tops cy u i) ++ tpC cy 8 v).set 4 (u 4, eRef (cy 5) 6 (va_up (tpB u i) i (some (v 0)))) = rpH cy (tpV u i v) (rgA (tpV u i v) 8) (tpB (tpV u i v) (i + 1)) ++ rgS cy (tpV u i v) 8 ++ tops cy (tpV u i v) (i + 1) := by
  have eA : tpB (tpV u i v) (i + 1) = va_up (tpB u i) i (some (v 0)) := by
    funext j
    unfold tpB va_up
    by_cases e : j = i
    · subst e; rw [if_pos (by omega), if_pos rfl]; exact congrArg some (tpV_ge (j := 0))
    · rw [if_neg e]
      show _ = if j < i then some (u (29 + 18 * j)) else none
      by_cases h : j < i
      · rw [if_pos h, if_pos (by omega), tpV_lt (by omega)]
      · rw [if_neg h, if_neg (by omega)]
  have eS : tops cy (tpV u i v) (i + 1) = tops cy u i ++ tpC cy 8 v := by
    show tops cy (tpV u i v) i ++ tpC cy 8 (fun j => tpV u i v (29 + 18 * i + j)) = _
    rw [tops_c i (fun j hj => tpV_lt hj), tpC_c (u := v) (fun j _ => tpV_ge)]
  rw [eA, eS, rpH_c (u := u) (fun j hj => tpV_lt (by omega)), rgA_c (u := u) (fun j hj => tpV_lt (by omega)), rgS_c (u := u) 8 (fun j hj => tpV_lt (by omega)), ← List.append_assoc]
  rfl
