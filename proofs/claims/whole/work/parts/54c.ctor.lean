set_option maxHeartbeats 300000 in
set_option maxRecDepth 100000 in
theorem kX3_init (l : Launch) {D : va_G} {cy : Nat → Nat} {ws : va_W} {A : Nat → Prop} {q : Nat} (hD : va_D A (ws ++ (q, .inr (2, [.null, .int 0, .int 0, .int 0])) :: [])) : Met l yX3_init wsX3_init ({ frames := 1, cells := 1, slots := 8, locals := 12 }) (va_Pc [.ref q] (RW D cy (ws ++ (q, .inr (2, [.null, .int 0, .int 0, .int 0])) :: []) A)) (va_Qv (S := Nat) (fun k => va_D A (ws ++ (q, .inr (2, [.ref k, .int (nI 2), .int 0, .int 0])) :: [(k, eInt (cy 0) 8 (fun _ => 0))])) (fun k t => va_P D vwCl (ws ++ (q, .inr (2, [.ref k, .int (nI 2), .int 0, .int 0])) :: [(k, eInt (cy 0) 8 (fun _ => 0))]) t.heap) A) 1 8 A := by
  refine Met.ofW (cc := cX3_init) (maxL := 1) (ret := none) (by decide) rfl ?_
  intro p e s m args below meth c s₁ B hml hv
  obtain ⟨rfl, hP, hE, hA⟩ := hv
  have hx := B.exec
  have hb := B.bytes
  have hr := B.returns
  have hts := atoms_spec (ws := wsX3_init) B.pre
  have hown : s.vm.findClass RX3 = some m.cls := findClass_of_methodNamed B.named
  have hlocks := B.notSynchronized
  have hin : meth.name = "<init>" := (name_of_methodNamed B.named B.method).1
  have hin_RX3 : ∀ w ∈ u_ws RX3 TX3 4, w ∈ wsX3_init := by decide +kernel
  have hS : va_S A s.heap s.heap [] := va_S.rf
  have hl := lv_entry ([.ref q]) (n := 1) (Nat.le_of_ble_eq_true rfl)
  rw [lg_entry_eq]
  generalize (lg_sl ([.ref q]) ++ List.replicate (1 - (lg_sl ([.ref q])).length) Slot.unset).toArray = ls at hl ⊢
  have hl : lv_has ls 1 [(0, .ref q)] := hl
  refine lv_aload_n hx hb dX3_init_0 rfl (lv_at hl 0 rfl) ?_
  refine W.objInit hx hb hown (hts (.methodLink RX3 3 objectInit) (by decide +kernel)) (hts (.instanceMethod objectInit) (by decide +kernel)) (hts _ (List.mem_cons_of_mem _ (List.mem_append_left _ (List.mem_of_getElem? (i := 2) rfl)))) rfl (by rw [hml]; exact hl.1) rfl dX3_init_1 (Nat.le_of_ble_eq_true rfl) (Nat.le_of_ble_eq_true rfl) ?_
  refine W.eq (g2 := F0 m 4 ls []) rfl ?_
  refine lv_aload_n hx hb dX3_init_4 rfl (lv_at hl 0 rfl) ?_
  refine lv_bipush (v := nI 8) hx hb dX3_init_5 (by decide) ?_
  refine wr_newa (atype := .int) (cy := cy) (a0 := (8, .inl (fun _ => 0))) hx hb (hts (.arrayClass .int) (by decide +kernel)) rfl 0 rfl hE.1 hP hD hS hA (fun _ => rfl) (by decide) (by decide) (by decide) (Nat.le_of_ble_eq_true rfl) (Nat.le_of_ble_eq_true rfl) dX3_init_7 (fun k H hP hD hS => ?_)
  rw [gl_app] at hP hD
  refine va_putF (D := D) (ci := 2) (v := .ref k) (ty := (.array .int)) (C := RX3) (T := TX3) (N := 4) hx hb hts hin_RX3 tyX3 tyX3_ok nmX3 hown hE.1 hP hD hS ws.length gl_at rfl 0 (by decide) (hts (.fieldLink RX3 9 "RingPetition$Signature" "numbers" "[I") (by decide +kernel)) (fun _ h9 => h9) rfl hin rfl (by decide +kernel) rfl rfl (Nat.le_of_ble_eq_true rfl) dX3_init_9 (fun H locs hP hD hS => ?_)
  rw [gl_set] at hP hD
  have hP : va_P D vwCl (ws ++ (q, .inr (2, [.ref k, .int 0, .int 0, .int 0])) :: [(k, eInt (cy 0) 8 (fun _ => 0))]) H := hP
  have hD : va_D A (ws ++ (q, .inr (2, [.ref k, .int 0, .int 0, .int 0])) :: [(k, eInt (cy 0) 8 (fun _ => 0))]) := hD
  refine lv_aload_n hx hb dX3_init_12 rfl (lv_at hl 0 rfl) ?_
  refine lv_iconst (v := nI 2) hx hb dX3_init_13 (by decide) ?_
  refine va_put (D := D) (ci := 2) (v := .int (nI 2)) (ty := .int) (C := RX3) (T := TX3) (N := 4) hx hb hts hin_RX3 tyX3 tyX3_ok nmX3 hown hE.1 hP hD hS ws.length gl_at rfl 1 (by decide) (hts (.fieldLink RX3 15 "RingPetition$Signature" "size" "I") (by decide +kernel)) (fun _ h9 => h9) rfl (by decide +kernel) rfl rfl (Nat.le_of_ble_eq_true rfl) dX3_init_14 (fun H locs hP hD hS => ?_)
  rw [gl_set] at hP hD
  have hP : va_P D vwCl (ws ++ (q, .inr (2, [.ref k, .int (nI 2), .int 0, .int 0])) :: [(k, eInt (cy 0) 8 (fun _ => 0))]) H := hP
  have hD : va_D A (ws ++ (q, .inr (2, [.ref k, .int (nI 2), .int 0, .int 0])) :: [(k, eInt (cy 0) 8 (fun _ => 0))]) := hD
  refine lv_aload_n hx hb dX3_init_17 rfl (lv_at hl 0 rfl) ?_
  refine lv_iconst (v := 0) hx hb dX3_init_18 (by decide) ?_
  refine va_put (D := D) (ci := 2) (v := .int 0) (ty := .int) (C := RX3) (T := TX3) (N := 4) hx hb hts hin_RX3 tyX3 tyX3_ok nmX3 hown hE.1 hP hD hS ws.length gl_at rfl 2 (by decide) (hts (.fieldLink RX3 19 "RingPetition$Signature" "ringNumber" "I") (by decide +kernel)) (fun _ h9 => h9) rfl (by decide +kernel) rfl rfl (Nat.le_of_ble_eq_true rfl) dX3_init_19 (fun H locs hP hD hS => ?_)
  rw [gl_set] at hP hD
  have hP : va_P D vwCl (ws ++ (q, .inr (2, [.ref k, .int (nI 2), .int 0, .int 0])) :: [(k, eInt (cy 0) 8 (fun _ => 0))]) H := hP
  have hD : va_D A (ws ++ (q, .inr (2, [.ref k, .int (nI 2), .int 0, .int 0])) :: [(k, eInt (cy 0) 8 (fun _ => 0))]) := hD
  refine lv_aload_n hx hb dX3_init_22 rfl (lv_at hl 0 rfl) ?_
  refine lv_iconst (v := 0) hx hb dX3_init_23 (by decide) ?_
  refine va_put (D := D) (ci := 2) (v := .int 0) (ty := .int) (C := RX3) (T := TX3) (N := 4) hx hb hts hin_RX3 tyX3 tyX3_ok nmX3 hown hE.1 hP hD hS ws.length gl_at rfl 3 (by decide) (hts (.fieldLink RX3 22 "RingPetition$Signature" "motion" "I") (by decide +kernel)) (fun _ h9 => h9) rfl (by decide +kernel) rfl rfl (Nat.le_of_ble_eq_true rfl) dX3_init_24 (fun H locs hP hD hS => ?_)
  rw [gl_set] at hP hD
  have hP : va_P D vwCl (ws ++ (q, .inr (2, [.ref k, .int (nI 2), .int 0, .int 0])) :: [(k, eInt (cy 0) 8 (fun _ => 0))]) H := hP
  have hD : va_D A (ws ++ (q, .inr (2, [.ref k, .int (nI 2), .int 0, .int 0])) :: [(k, eInt (cy 0) 8 (fun _ => 0))]) := hD
  exact W.vret hx hb hr (fun t ht hW => ⟨⟨k, rfl, hD, (by show va_P D vwCl _ t.heap; rw [ht]; exact hP)⟩, hS.F ht⟩) hS.2.2 dX3_init_27
