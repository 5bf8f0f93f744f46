theorem arrV_c {c : ClassId} {n : Nat} {f g : Nat → Value} (h : ∀ j, j < n → f j = g j) : arrV c n f = arrV c n g := by
  unfold arrV
  congr 1
  apply Array.ext
  · simp
  · intro i h1 h2
    simp at h1 ⊢
    exact h i (by simpa using h1)
theorem rf_set {D : va_G} {A : Nat → Prop} {ws : va_W} {H : Heap} {k a c N : Nat} {f g : Nat → Option Nat} (hP : va_P D vwCl ws H) (hD : va_D A ws) (hk : ws[k]? = some (a, eRef c N f)) (h : ∀ j, j < N → f j = g j) : va_P D vwCl (ws.set k (a, eRef c N g)) H := by
  refine hP.set hD hk ?_ (fun _ _ => rfl)
  have h1 := hP k _ hk
  show H[a]? = some (vp_cell c (N, .inr (.inr (.inr (.inr g)))))
  rw [vp_cell_q, arrV_c (g := fun j => va_rf (f j)) (fun j hj => by rw [h j hj])]
  exact h1
/-- the memory of a new RingPetition -/
def M0 : Mm := fun k c => if k < 13 then (if (k = 5 ∨ k = 10) ∧ c = 1 then nI 2 else 0) else if k < 29 then 0 else if k < 137 then (if (k - 29) % 18 = 0 ∧ c = 1 then nI 4 else if (k - 29) % 18 ≠ 0 ∧ (k - 29) % 2 = 0 ∧ c = 1 then nI 2 else 0) else 0
