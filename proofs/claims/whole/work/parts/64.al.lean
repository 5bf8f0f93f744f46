theorem wd_of {D : va_G} {A : Nat → Prop} {cy ad : Nat → Nat} {n : Nat} {M : Mm} {ws : va_W} {H : Heap} (hn : ws.length = n) (hk : ∀ k, k < n → ∃ e, ws[k]? = some (ad k, e) ∧ eqE e (gE cy ad k (M k))) (hP : va_P D vwCl ws H) (hD : va_D A ws) : va_P D vwCl (wd cy ad n M) H ∧ va_D A (wd cy ad n M) := by
  have hw : ∀ k, k < n → (wd cy ad n M)[k]? = some (ad k, gE cy ad k (M k)) := fun k hk => by simp [wd, hk]
  refine ⟨fun k q hq => ?_, va_Dx (w1 := ws) ?_ hD⟩
  · have h9 : k < n := by have := (List.getElem?_eq_some_iff.mp hq).1; rw [wd_len] at this; exact this
    rw [hw k h9] at hq
    cases hq
    obtain ⟨e, he, hx⟩ := hk k h9
    have h1 := hP k _ he
    rcases hx with hx | ⟨c, N, f1, f2, e1, e2, hf⟩
    · rw [← hx]; exact h1
    · rw [e2]; rw [e1] at h1
      show H[ad k]? = some (vp_cell c (N, .inr (.inr (.inr (.inr f2)))))
      rw [vp_cell_q, arrV_c (g := fun j => va_rf (f1 j)) (fun j hj => by rw [hf j hj])]
      exact h1
  · apply List.ext_getElem?
    intro k
    rw [List.getElem?_map, List.getElem?_map]
    rcases Nat.lt_or_ge k n with h9 | h9
    · obtain ⟨e, he, -⟩ := hk k h9
      rw [he, hw k h9]
      rfl
    · rw [List.getElem?_eq_none (by rw [hn]; exact h9), List.getElem?_eq_none (by rw [wd_len]; exact h9)]
theorem rpW_c {cy u u' : Nat → Nat} (h : ∀ j, j < 137 → u' j = u j) : rpW cy u' = rpW cy u := by
  have e : tpB u' 6 = tpB u 6 := by
    funext j
    unfold tpB
    by_cases e : j < 6
    · rw [if_pos e, if_pos e, h _ (by omega)]
    · rw [if_neg e, if_neg e]
  unfold rpW
  rw [e, rgA_c (fun j hj => h j (by omega)), rpH_c (fun j hj => h j (by omega)), rgS_c 8 (fun j hj => h j (by omega)), tops_c 6 (fun j hj => h j (by omega))]
/-- where the law's cells lie; the memory at the law's beginning -/
def adL (u0 v : Nat → Nat) (q o : Nat) : Nat → Nat := fun j => if j < 137 then u0 j else if j = 137 then q else if j = 154 then o else v j
def M1 (f1 f2 : Nat → Int32) : Mm := fun k => if k = 137 then (fun c => if c = 16 then nI 2 else 0) else if k = 138 then f1 else if k = 139 then f2 else M0 k
def moC (cy v : Nat → Nat) (q : Nat) (f1 f2 : Nat → Int32) : va_W := [(q, .inr (5, [.int 0, .ref (v 138), .ref (v 139), .int 0, .ref (v 140), .int 0, .ref (v 141), .ref (v 142), .int 0, .ref (v 143), .ref (v 144), .ref (v 145), .ref (v 146), .ref (v 147), .ref (v 148), .ref (v 149), .int (nI 2), .ref (v 150), .int 0, .ref (v 151), .int 0, .ref (v 152), .int 0, .int 0, .int 0, .ref (v 153), .int 0])), ((v 138), eInt (cy 0) 1013 f1), ((v 139), eInt (cy 0) 2027 f2), ((v 140), eInt (cy 0) 12 (fun _ => 0)), ((v 141), eInt (cy 0) 8 (fun _ => 0)), ((v 142), eInt (cy 0) 48 (fun _ => 0)), ((v 143), eInt (cy 0) 6 (fun _ => 0)), ((v 144), eInt (cy 0) 6 (fun _ => 0)), ((v 145), eInt (cy 1) 6 (fun _ => 0)), ((v 146), eInt (cy 0) 6 (fun _ => 0)), ((v 147), eInt (cy 0) 48 (fun _ => 0)), ((v 148), eInt (cy 0) 48 (fun _ => 0)), ((v 149), eInt (cy 0) 384 (fun _ => 0)), ((v 150), eInt (cy 0) 8 (fun _ => 0)), ((v 151), eInt (cy 0) 200 (fun _ => 0)), ((v 152), eInt (cy 0) 6 (fun _ => 0)), ((v 153), eInt (cy 0) 8 (fun _ => 0))]
def ouC (cy : Nat → Nat) (o : Nat) : Nat × va_E := (o, .inl (cy 2, 1, .inr (.inl (fun _ => 0))))
theorem al_len {cy u0 v : Nat → Nat} {q o : Nat} {f1 f2 : Nat → Int32} : (rpW cy u0 ++ moC cy v q f1 f2 ++ [ouC cy o]).length = 155 := by
  rw [List.length_append, List.length_append, rpW_len]
  rfl
theorem al_hi {cy u0 v : Nat → Nat} {q o k : Nat} {f1 f2 : Nat → Int32} : (rpW cy u0 ++ moC cy v q f1 f2 ++ [ouC cy o])[137 + k]? = (moC cy v q f1 f2 ++ [ouC cy o])[k]? := by
  rw [List.append_assoc, List.getElem?_append_right (by rw [rpW_len]; omega), rpW_len, Nat.add_sub_cancel_left]
set_option maxHeartbeats 2000000 in
set_option maxRecDepth 100000 in
theorem al_at {cy u0 v : Nat → Nat} {q o k : Nat} {f1 f2 : Nat → Int32} (h : k < 155) : ∃ e, (rpW cy u0 ++ moC cy v q f1 f2 ++ [ouC cy o])[k]? = some (adL u0 v q o k, e) ∧ eqE e (gE cy (adL u0 v q o) k (M1 f1 f2 k)) := by
  rcases Nat.lt_or_ge k 137 with h1 | h1
  · obtain ⟨e, he, hx⟩ := rp_all (cy := cy) (u := adL u0 v q o) h1
    rw [rpW_c (u := u0) (fun j hj => by unfold adL; rw [if_pos hj])] at he
    refine ⟨e, ?_, ?_⟩
    · rw [List.append_assoc, List.getElem?_append_left (by rw [rpW_len]; exact h1)]; exact he
    · unfold M1
      rw [if_neg (by omega), if_neg (by omega), if_neg (by omega)]
      exact hx
  · obtain ⟨i, rfl⟩ : ∃ i, k = 137 + i := ⟨k - 137, by omega⟩
    rw [al_hi]
    rcases (show i = 0 ∨ i = 1 ∨ i = 2 ∨ i = 3 ∨ i = 4 ∨ i = 5 ∨ i = 6 ∨ i = 7 ∨ i = 8 ∨ i = 9 ∨ i = 10 ∨ i = 11 ∨ i = 12 ∨ i = 13 ∨ i = 14 ∨ i = 15 ∨ i = 16 ∨ i = 17 by omega) with rfl | rfl | rfl | rfl | rfl | rfl | rfl | rfl | rfl | rfl | rfl | rfl | rfl | rfl | rfl | rfl | rfl | rfl
    · exact ⟨_, rfl, Or.inl rfl⟩
    · exact ⟨_, rfl, Or.inl rfl⟩
    · exact ⟨_, rfl, Or.inl rfl⟩
    · exact ⟨_, rfl, Or.inl rfl⟩
    · exact ⟨_, rfl, Or.inl rfl⟩
    · exact ⟨_, rfl, Or.inl rfl⟩
    · exact ⟨_, rfl, Or.inl rfl⟩
    · exact ⟨_, rfl, Or.inl rfl⟩
    · exact ⟨_, rfl, Or.inl rfl⟩
    · exact ⟨_, rfl, Or.inl rfl⟩
    · exact ⟨_, rfl, Or.inl rfl⟩
    · exact ⟨_, rfl, Or.inl rfl⟩
    · exact ⟨_, rfl, Or.inl rfl⟩
    · exact ⟨_, rfl, Or.inl rfl⟩
    · exact ⟨_, rfl, Or.inl rfl⟩
    · exact ⟨_, rfl, Or.inl rfl⟩
    · exact ⟨_, rfl, Or.inl rfl⟩
    · exact ⟨_, rfl, Or.inl rfl⟩
theorem al_wd {D : va_G} {A : Nat → Prop} {cy u0 v : Nat → Nat} {q o : Nat} {f1 f2 : Nat → Int32} {H : Heap} (hP : va_P D vwCl (rpW cy u0 ++ moC cy v q f1 f2 ++ [ouC cy o]) H) (hD : va_D A (rpW cy u0 ++ moC cy v q f1 f2 ++ [ouC cy o])) : va_P D vwCl (wd cy (adL u0 v q o) 155 (M1 f1 f2)) H ∧ va_D A (wd cy (adL u0 v q o) 155 (M1 f1 f2)) := wd_of al_len (fun _ h => al_at h) hP hD
