/-- what a constructor that makes arrays of references is given -/
def AO3 (U : State) : Prop := va_AO RX1 U ∧ va_AO RX3 U ∧ va_AO RX4 U
theorem AO3.warm {s U : State} (hW : s.WarmedH U.vm) (h : AO3 s) : AO3 U := ⟨va_AO.moved hW.alike h.1, va_AO.moved hW.alike h.2.1, va_AO.moved hW.alike h.2.2⟩
def CW (D : va_G) (cy : Nat → Nat) (ws : va_W) (A : Nat → Prop) (U : State) : Prop := RW D cy ws A U ∧ AO3 U
theorem cw_fb {D : va_G} {cy : Nat → Nat} {ws : va_W} {A : Nat → Prop} {av : List Value} : FrameBlind (va_Pc av (CW D cy ws A)) := fun a U g mk h => ⟨h.1, ⟨h.2.1.1, EV.same (s := U) (U := U.calling g mk a) rfl h.2.1.2.1, h.2.1.2.2⟩, AO3.warm (s := U) (U := U.calling g mk a) (State.WarmedH.refl U) h.2.2⟩
theorem cw_ps {s : State} {H H0 : Heap} {D : va_G} {cy : Nat → Nat} {ws : va_W} {A : Nat → Prop} {locs : List Loc} {As : List Value} (hE : EV D cy s) (hO : AO3 s) (hP : va_P D vwCl ws H) (hS : va_S A H0 H locs) (hA : ∀ q, H0.size ≤ q → A q) : PreS s H (va_Pc As (CW D cy ws A)) As := ⟨cw_fb, fun U hU hW => ⟨rfl, ⟨by rw [hU]; exact hP, hE.warm hW, fun q h => hA q (Nat.le_trans hS.1 (by rw [hU] at h; exact h))⟩, hO.warm hW⟩⟩
-- a topic's cells
def tpS (cy : Nat → Nat) (u : Nat → Nat) : Nat → va_W
  | 0 => []
  | i + 1 => tpS cy u i ++ [(u (2 + 2 * i), .inr (2, [.ref (u (3 + 2 * i)), .int (nI 2), .int 0, .int 0])), (u (3 + 2 * i), eInt (cy 0) 8 (fun _ => 0))]
def tpA (u : Nat → Nat) (i : Nat) : Nat → Option Nat := fun j => if j < i then some (u (2 + 2 * j)) else none
def tpC (cy : Nat → Nat) (i : Nat) (u : Nat → Nat) : va_W := (u 0, .inr (3, [.int 0, .int (nI 4), .int 0, .ref (u 1), .int 0])) :: (u 1, eRef (cy 4) 8 (tpA u i)) :: tpS cy u i
def tpU (u : Nat → Nat) (i a k : Nat) : Nat → Nat := fun j => if j = 2 + 2 * i then a else if j = 3 + 2 * i then k else u j
theorem tpS_c {cy u u' : Nat → Nat} : ∀ i, (∀ j, j < 2 + 2 * i → u' j = u j) → tpS cy u' i = tpS cy u i
  | 0, _ => rfl
  | i + 1, h => by
    unfold tpS
    rw [tpS_c i (fun j hj => h j (by omega)), h (2 + 2 * i) (by omega), h (3 + 2 * i) (by omega)]
theorem tpU_lt {u : Nat → Nat} {i a k j : Nat} (h : j < 2 + 2 * i) : tpU u i a k j = u j := by unfold tpU; rw [if_neg (by omega), if_neg (by omega)]
theorem tp_step {cy u : Nat → Nat} {i a k : Nat} : (tpC cy i u ++ [(a, .inr (2, [.ref k, .int (nI 2), .int 0, .int 0])), (k, eInt (cy 0) 8 (fun _ => 0))]).set 1 (u 1, eRef (cy 4) 8 (va_up (tpA u i) i (some a))) = tpC cy (i + 1) (tpU u i a k) := by
  have e0 : tpU u i a k 0 = u 0 := tpU_lt (by omega)
  have e1 : tpU u i a k 1 = u 1 := tpU_lt (by omega)
  have e2 : tpU u i a k (2 + 2 * i) = a := by unfold tpU; rw [if_pos rfl]
  have e3 : tpU u i a k (3 + 2 * i) = k := by unfold tpU; rw [if_neg (by omega), if_pos rfl]
  have eA : tpA (tpU u i a k) (i + 1) = va_up (tpA u i) i (some a) := by
    funext j
    unfold tpA va_up
    by_cases e : j = i
    · subst e; rw [if_pos (by omega), if_pos rfl, e2]
    · rw [if_neg e]
      show _ = if j < i then some (u (2 + 2 * j)) else none
      by_cases h : j < i
      · rw [if_pos h, if_pos (by omega), tpU_lt (by omega)]
      · rw [if_neg h, if_neg (by omega)]
  have eS : tpS cy (tpU u i a k) (i + 1) = tpS cy u i ++ [(a, .inr (2, [.ref k, .int (nI 2), .int 0, .int 0])), (k, eInt (cy 0) 8 (fun _ => 0))] := by
    show tpS cy (tpU u i a k) i ++ _ = _
    rw [tpS_c i (fun j hj => tpU_lt hj), e2, e3]
  unfold tpC
  rw [e0, e1, eA, eS]
  rfl
