/-! the law's surroundings: what holds from its first call on -/
def AL (s : State) : Nat → Prop := fun q => s.heap.size ≤ q
def LC (p : Program) (l : Launch) (s : State) (m : MethodId) (c : Code) (b L : Nat) (xs : Nat → Int32) (D : va_G) (cy ad : Nat → Nat) : Prop :=
  p.tables.exec = Jvm.exec ∧ c.code = cL_law ∧ c.maxLocals = 7 ∧ s.vm.findClass RL = some m.cls ∧ (∀ w ∈ wsL_law, w.before #[Value.ref b] s = true) ∧ va_X b L xs s s.heap ∧ b < s.heap.size ∧ EV D cy s ∧ XF (AL s) s ∧
  va_Nc "java/lang/IllegalStateException" "java/lang/IllegalArgumentException" s ∧ va_Nc "java/lang/UnsupportedOperationException" "java/lang/IllegalArgumentException" s ∧ va_Nc "java/lang/UnsupportedOperationException" "java/lang/IllegalStateException" s ∧ va_Nc "java/lang/IndexOutOfBoundsException" "java/lang/IllegalArgumentException" s ∧
  (∀ M, va_D (AL s) (wd cy ad 155 M ++ [])) ∧ l.stackTraces = false
section LPRE
variable {s : State} {H : Heap} {D : va_G} {cy : Nat → Nat} {ws : va_W} {A : Nat → Prop} {locs : List Loc} {As : List Value}
theorem lp_fb {av : List Value} : FrameBlind (va_Pc av (LW D cy ws A)) := fun a U g mk h => ⟨h.1, (tw_fb a U g mk ⟨h.1, h.2.1⟩).2, va_Nc.moved (u := U) (U := U.calling g mk a) (Vm.Alike.refl U.vm) h.2.2.1, va_Nc.moved (u := U) (U := U.calling g mk a) (Vm.Alike.refl U.vm) h.2.2.2.1, va_Nc.moved (u := U) (U := U.calling g mk a) (Vm.Alike.refl U.vm) h.2.2.2.2.1, va_Nc.moved (u := U) (U := U.calling g mk a) (Vm.Alike.refl U.vm) h.2.2.2.2.2⟩
theorem lp_ps (hE : EV D cy s) (hP : va_P D vwCl ws H) (hS : va_S A s.heap H locs) (hA : ∀ q, s.heap.size ≤ q → A q) (hX : XF A s)
    (h1 : va_Nc "java/lang/IllegalStateException" "java/lang/IllegalArgumentException" s) (h2 : va_Nc "java/lang/UnsupportedOperationException" "java/lang/IllegalArgumentException" s) (h3 : va_Nc "java/lang/UnsupportedOperationException" "java/lang/IllegalStateException" s) (h4 : va_Nc "java/lang/IndexOutOfBoundsException" "java/lang/IllegalArgumentException" s) : PreS s H (va_Pc As (LW D cy ws A)) As :=
  ⟨lp_fb, fun U hU hW => ⟨rfl, ⟨by rw [hU]; exact hP, hE.warm hW, fun q h => hA q (Nat.le_trans hS.1 (by rw [hU] at h; exact h)), hX.go hS hU hW⟩, va_Nc.moved hW.alike h1, va_Nc.moved hW.alike h2, va_Nc.moved hW.alike h3, va_Nc.moved hW.alike h4⟩⟩
end LPRE
theorem lc_0 (x : Int64) : lg_cmp x x = 0 := by simp [lg_cmp]
theorem seen_01 {tc sc0 : Nat} {x bb : Int32} {u1 u2 : Mm} (hm : PM_seen tc x sc0 u1 bb u2) (h0 : u2 137 0 = nI 0) : bb = 1 ∨ bb = 0 := by
  rcases hm with ⟨_, _, hb, _⟩ | ⟨_, rfl⟩
  · exact hb.elim (fun q => Or.inl q.2) (fun q => Or.inr q.2)
  · rw [st_s] at h0; exact absurd h0 (by decide)
