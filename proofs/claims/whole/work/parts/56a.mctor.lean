theorem gl_ats {ws es : va_W} {k : Nat} : (ws ++ es)[ws.length + k]? = es[k]? := by
  rw [List.getElem?_append_right (Nat.le_add_right _ _), Nat.add_sub_cancel_left]
theorem gl_sets {ws es : va_W} {k : Nat} {y : Nat × va_E} : (ws ++ es).set (ws.length + k) y = ws ++ es.set k y := by
  rw [List.set_append_right _ _ (Nat.le_add_right _ _), Nat.add_sub_cancel_left]
def tbI (e0 : Nat) (f1 f2 : Nat → Int32) : Prop := (∀ a, a < e0 → f1 a = nI (4 ^ a % 2027)) ∧ ∀ x, x < 2027 → (∃ a, a < e0 ∧ 4 ^ a % 2027 = x ∧ f2 x = nI a) ∨ ((∀ a, a < e0 → 4 ^ a % 2027 ≠ x) ∧ f2 x = (-1))
theorem tbI_s {e0 : Nat} {f1 f2 : Nat → Int32} (h : tbI e0 f1 f2) : tbI (e0 + 1) (upd f1 e0 (nI (4 ^ e0 % 2027))) (upd f2 (4 ^ e0 % 2027) (nI e0)) := by
  refine ⟨fun a ha => ?_, fun x hx => ?_⟩
  · by_cases e : a = e0
    · subst e; rw [pk_us]
    · rw [pk_un e]; exact h.1 a (by omega)
  · by_cases e : x = 4 ^ e0 % 2027
    · subst e; exact Or.inl ⟨e0, by omega, rfl, by rw [pk_us]⟩
    · rw [pk_un e]
      rcases h.2 x hx with ⟨a, ha, h1, h2⟩ | ⟨h1, h2⟩
      · exact Or.inl ⟨a, by omega, h1, h2⟩
      · refine Or.inr ⟨fun a ha h3 => ?_, h2⟩
        rcases Nat.lt_or_ge a e0 with h4 | h4
        · exact h1 a h4 h3
        · rw [show a = e0 by omega] at h3; exact e h3.symm
theorem tbI_f {f1 f2 : Nat → Int32} (h : tbI 1013 f1 f2) : (∀ a, a < 1013 → f1 a = nI (4 ^ a % 2027)) ∧ ∀ x, 1 < x → x < 2027 → f2 x = if eltN x = true then nI (dlg x) else (-1) := by
  refine ⟨h.1, fun x h1 h2 => ?_⟩
  by_cases hx : eltN x = true
  · rw [if_pos hx]
    have hd := g_dl hx
    rcases h.2 x h2 with ⟨a, ha, h3, h4⟩ | ⟨h3, h4⟩
    · rw [h4, g_inj ha hd.2.1 (h3.trans hd.2.2.symm)]
    · exact absurd hd.2.2 (h3 _ hd.2.1)
  · rw [if_neg hx]
    rcases h.2 x h2 with ⟨a, ha, h3, h4⟩ | ⟨h3, h4⟩
    · exfalso
      rcases Nat.eq_zero_or_pos a with h5 | h5
      · rw [h5] at h3
        have h6 : 4 ^ 0 % 2027 = 1 := by decide
        omega
      · exact hx (by rw [← h3]; exact g_el h5 ha)
    · exact h4
