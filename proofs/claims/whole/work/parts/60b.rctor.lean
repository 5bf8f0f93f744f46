set_option maxHeartbeats 2000000 in
set_option maxRecDepth 100000 in
theorem kX5_init (l : Launch) {D : va_G} {cy : Nat → Nat} {ws : va_W} {A : Nat → Prop} {q : Nat} (hD : va_D A (ws ++ [(q, .inr (4, [.null, .null, .int 0, .null, .int 0, .null, .null, .int 0, .null, .null, .null]))])) : Met l yX5_init wsX5_init ({ frames := 3, cells := 136, slots := 1040, locals := 80 }) (va_Pc [.ref q] (CW D cy (ws ++ [(q, .inr (4, [.null, .null, .int 0, .null, .int 0, .null, .null, .int 0, .null, .null, .null]))]) A)) (va_Qv (S := Nat → Nat) (fun u => u 0 = q ∧ va_D A (ws ++ (rpH cy u (rgA u 8) (tpB u 6) ++ rgS cy u 8 ++ tops cy u 6))) (fun u t => va_P D vwCl (ws ++ (rpH cy u (rgA u 8) (tpB u 6) ++ rgS cy u 8 ++ tops cy u 6)) t.heap) A) 136 1040 A := by
  refine Met.ofW (cc := cX5_init) (maxL := 2) (ret := none) (by decide) rfl ?_
  intro p e s m args below meth c s₁ B hml hv
  obtain ⟨rfl, ⟨hP, hE, hA⟩, hO⟩ := hv
  have hx := B.exec
  have hb := B.bytes
  have hr := B.returns
  have hts := atoms_spec (ws := wsX5_init) B.pre
  have hown : s.vm.findClass RX5 = some m.cls := findClass_of_methodNamed B.named
  have hlocks := B.notSynchronized
  have hin : meth.name = "<init>" := (name_of_methodNamed B.named B.method).1
  have hin_RX5 : ∀ w ∈ u_ws RX5 TX5 11, w ∈ wsX5_init := by decide +kernel
  have hS : va_S A s.heap s.heap [] := va_S.rf
  have hl := lv_entry ([.ref q]) (n := 2) (Nat.le_of_ble_eq_true rfl)
  rw [lg_entry_eq]
  generalize (lg_sl ([.ref q]) ++ List.replicate (2 - (lg_sl ([.ref q])).length) Slot.unset).toArray = ls at hl ⊢
  have hl : lv_has ls 2 [(0, .ref q)] := hl
  have hin_RX1 : ∀ w ∈ u_ws RX1 TX1 2, w ∈ wsX5_init := by decide +kernel
  have hin_RX3 : ∀ w ∈ u_ws RX3 TX3 4, w ∈ wsX5_init := by decide +kernel
  have hin_RX4 : ∀ w ∈ u_ws RX4 TX4 5, w ∈ wsX5_init := by decide +kernel
  refine lv_aload_n hx hb dX5_init_0 rfl (lv_at hl 0 rfl) ?_
  refine W.objInit hx hb hown (hts (.methodLink RX5 1 objectInit) (by decide +kernel)) (hts (.instanceMethod objectInit) (by decide +kernel)) (hts _ (List.mem_cons_of_mem _ (List.mem_append_left _ (List.mem_of_getElem? (i := 2) rfl)))) rfl (by rw [hml]; exact hl.1) rfl dX5_init_1 (Nat.le_of_ble_eq_true rfl) (Nat.le_of_ble_eq_true rfl) ?_
  refine W.eq (g2 := F0 m 4 ls []) rfl ?_
  refine lv_aload_n hx hb dX5_init_4 rfl (lv_at hl 0 rfl) ?_
  refine va_new (ci := 1) (fs := [.null, .int 0]) (C := RX1) (T := TX1) (N := 2) hx hb hts hin_RX1 tyX1 tyX1_ok hown (hts (.classLink RX5 7 RX1) (by decide +kernel)) (hts (.instantiable RX1 2) (by decide +kernel)) (hts (.initialized RX1) (by decide +kernel)) hE.1 hP hD hS hA rfl (fun j hj => by rcases (show j = 0 ∨ j = 1 by omega) with rfl | rfl <;> rfl) (Nat.le_of_ble_eq_true rfl) (Nat.le_of_ble_eq_true rfl) dX5_init_5 (fun a1 H hP hD hS => ?_)
  refine lv_dup hx hb dX5_init_8 rfl ?_
  refine lv_bipush (v := nI 12) hx hb dX5_init_9 (by decide) ?_
  refine va_callv (va_runI (As := [.int (nI 12)]) (rest := [.ref a1, .ref q]) ⟨hx, hb, hml, hown, hts⟩ (kX1_init l (ws := (ws ++ [(q, .inr (4, [.null, .null, .int 0, .null, .int 0, .null, .null, .int 0, .null, .null, .null]))])) (by decide) hD) (cwI 1 hts ggX5_init_X1_init rfl rfl rfl (hts (.initialized RX1) (by decide +kernel)) (hts (.methodLink RX5 11 yX1_init) (by decide +kernel)) (hts (.instanceMethod yX1_init) (by decide +kernel)) rfl (by decide +kernel) ⟨Nat.le_of_ble_eq_true rfl, Nat.le_of_ble_eq_true rfl⟩) (rw_ps hE hP hS hA) rfl rfl hl.1 rfl (lv_room (Nat.le_of_ble_eq_true rfl)) dX5_init_11 ⟨Nat.le_of_ble_eq_true rfl, Nat.le_of_ble_eq_true rfl⟩) hS (fun q _ h => h) (fun q h => h) (fun k2 t H1 locs ht hvm hr_ hB_ hz1 hk1 hS => ?_)
  have hD := hr_
  have hP : va_P D vwCl ((ws ++ [(q, .inr (4, [.null, .null, .int 0, .null, .int 0, .null, .null, .int 0, .null, .null, .null]))]) ++ [(a1, .inr (1, [.ref k2, .int 0])), (k2, eInt (cy 0) 12 (fun _ => 0))]) H1 := by rw [← ht]; exact hB_
  clear hB_ hr_ ht hvm hz1 hk1
  rw [List.append_assoc] at hP hD
  have hP : va_P D vwCl (ws ++ [(q, .inr (4, [.null, .null, .int 0, .null, .int 0, .null, .null, .int 0, .null, .null, .null])), (a1, .inr (1, [.ref k2, .int 0])), (k2, eInt (cy 0) 12 (fun _ => 0))]) H1 := hP
  have hD : va_D A (ws ++ [(q, .inr (4, [.null, .null, .int 0, .null, .int 0, .null, .null, .int 0, .null, .null, .null])), (a1, .inr (1, [.ref k2, .int 0])), (k2, eInt (cy 0) 12 (fun _ => 0))]) := hD
  generalize H1 = H at hP hS ⊢
  refine va_putF (D := D) (ci := 4) (v := .ref a1) (ty := (.object "RingPetition$KeyRow")) (C := RX5) (T := TX5) (N := 11) hx hb hts hin_RX5 tyX5 tyX5_ok nmX5 hown hE.1 hP hD hS (ws.length + 0) (gl_ats.trans rfl) rfl 0 (by decide) (hts (.fieldLink RX5 14 "RingPetition" "everybody" "LRingPetition$KeyRow;") (by decide +kernel)) (fun _ h9 => h9) rfl hin rfl (by decide +kernel) rfl rfl (Nat.le_of_ble_eq_true rfl) dX5_init_14 (fun H locs hP hD hS => ?_)
  rw [gl_sets] at hP hD
  have hP : va_P D vwCl (ws ++ [(q, .inr (4, [.ref a1, .null, .int 0, .null, .int 0, .null, .null, .int 0, .null, .null, .null])), (a1, .inr (1, [.ref k2, .int 0])), (k2, eInt (cy 0) 12 (fun _ => 0))]) H := hP
  have hD : va_D A (ws ++ [(q, .inr (4, [.ref a1, .null, .int 0, .null, .int 0, .null, .null, .int 0, .null, .null, .null])), (a1, .inr (1, [.ref k2, .int 0])), (k2, eInt (cy 0) 12 (fun _ => 0))]) := hD
  refine lv_aload_n hx hb dX5_init_17 rfl (lv_at hl 0 rfl) ?_
  refine lv_bipush (v := nI 8) hx hb dX5_init_18 (by decide) ?_
  refine wr_newq (N' := 8) (cy := cy) (C := RX1) hx hb hown (hts (.classLink RX5 7 RX1) (by decide +kernel)) hO.1 3 rfl hE.1 hP hD hS hA (by decide) (by decide) (by decide) (Nat.le_of_ble_eq_true rfl) (Nat.le_of_ble_eq_true rfl) dX5_init_20 (fun k3 H hP hD hS => ?_)
  rw [List.append_assoc] at hP hD
  have hP : va_P D vwCl (ws ++ [(q, .inr (4, [.ref a1, .null, .int 0, .null, .int 0, .null, .null, .int 0, .null, .null, .null])), (a1, .inr (1, [.ref k2, .int 0])), (k2, eInt (cy 0) 12 (fun _ => 0)), (k3, eRef (cy 3) 8 (fun _ => none))]) H := hP
  have hD : va_D A (ws ++ [(q, .inr (4, [.ref a1, .null, .int 0, .null, .int 0, .null, .null, .int 0, .null, .null, .null])), (a1, .inr (1, [.ref k2, .int 0])), (k2, eInt (cy 0) 12 (fun _ => 0)), (k3, eRef (cy 3) 8 (fun _ => none))]) := hD
  refine va_putF (D := D) (ci := 4) (v := .ref k3) (ty := (.array (.object RX1))) (C := RX5) (T := TX5) (N := 11) hx hb hts hin_RX5 tyX5 tyX5_ok nmX5 hown hE.1 hP hD hS (ws.length + 0) (gl_ats.trans rfl) rfl 1 (by decide) (hts (.fieldLink RX5 18 "RingPetition" "rings" "[LRingPetition$KeyRow;") (by decide +kernel)) (fun _ h9 => h9) rfl hin rfl (by decide +kernel) rfl rfl (Nat.le_of_ble_eq_true rfl) dX5_init_23 (fun H locs hP hD hS => ?_)
  rw [gl_sets] at hP hD
  have hP : va_P D vwCl (ws ++ [(q, .inr (4, [.ref a1, .ref k3, .int 0, .null, .int 0, .null, .null, .int 0, .null, .null, .null])), (a1, .inr (1, [.ref k2, .int 0])), (k2, eInt (cy 0) 12 (fun _ => 0)), (k3, eRef (cy 3) 8 (fun _ => none))]) H := hP
  have hD : va_D A (ws ++ [(q, .inr (4, [.ref a1, .ref k3, .int 0, .null, .int 0, .null, .null, .int 0, .null, .null, .null])), (a1, .inr (1, [.ref k2, .int 0])), (k2, eInt (cy 0) 12 (fun _ => 0)), (k3, eRef (cy 3) 8 (fun _ => none))]) := hD
  refine lv_aload_n hx hb dX5_init_26 rfl (lv_at hl 0 rfl) ?_
  refine lv_iconst (v := 0) hx hb dX5_init_27 (by decide) ?_
  refine va_put (D := D) (ci := 4) (v := .int 0) (ty := .int) (C := RX5) (T := TX5) (N := 11) hx hb hts hin_RX5 tyX5 tyX5_ok nmX5 hown hE.1 hP hD hS (ws.length + 0) (gl_ats.trans rfl) rfl 2 (by decide) (hts (.fieldLink RX5 22 "RingPetition" "ringCount" "I") (by decide +kernel)) (fun _ h9 => h9) rfl (by decide +kernel) rfl rfl (Nat.le_of_ble_eq_true rfl) dX5_init_28 (fun H locs hP hD hS => ?_)
  rw [gl_sets] at hP hD
  have hP : va_P D vwCl (ws ++ [(q, .inr (4, [.ref a1, .ref k3, .int 0, .null, .int 0, .null, .null, .int 0, .null, .null, .null])), (a1, .inr (1, [.ref k2, .int 0])), (k2, eInt (cy 0) 12 (fun _ => 0)), (k3, eRef (cy 3) 8 (fun _ => none))]) H := hP
  have hD : va_D A (ws ++ [(q, .inr (4, [.ref a1, .ref k3, .int 0, .null, .int 0, .null, .null, .int 0, .null, .null, .null])), (a1, .inr (1, [.ref k2, .int 0])), (k2, eInt (cy 0) 12 (fun _ => 0)), (k3, eRef (cy 3) 8 (fun _ => none))]) := hD
  refine lv_aload_n hx hb dX5_init_31 rfl (lv_at hl 0 rfl) ?_
  refine lv_bipush (v := nI 6) hx hb dX5_init_32 (by decide) ?_
  refine wr_newq (N' := 6) (cy := cy) (C := RX4) hx hb hown (hts (.classLink RX5 26 RX4) (by decide +kernel)) hO.2.2 5 rfl hE.1 hP hD hS hA (by decide) (by decide) (by decide) (Nat.le_of_ble_eq_true rfl) (Nat.le_of_ble_eq_true rfl) dX5_init_34 (fun k4 H hP hD hS => ?_)
  rw [List.append_assoc] at hP hD
  have hP : va_P D vwCl (ws ++ [(q, .inr (4, [.ref a1, .ref k3, .int 0, .null, .int 0, .null, .null, .int 0, .null, .null, .null])), (a1, .inr (1, [.ref k2, .int 0])), (k2, eInt (cy 0) 12 (fun _ => 0)), (k3, eRef (cy 3) 8 (fun _ => none)), (k4, eRef (cy 5) 6 (fun _ => none))]) H := hP
  have hD : va_D A (ws ++ [(q, .inr (4, [.ref a1, .ref k3, .int 0, .null, .int 0, .null, .null, .int 0, .null, .null, .null])), (a1, .inr (1, [.ref k2, .int 0])), (k2, eInt (cy 0) 12 (fun _ => 0)), (k3, eRef (cy 3) 8 (fun _ => none)), (k4, eRef (cy 5) 6 (fun _ => none))]) := hD
  refine va_putF (D := D) (ci := 4) (v := .ref k4) (ty := (.array (.object RX4))) (C := RX5) (T := TX5) (N := 11) hx hb hts hin_RX5 tyX5 tyX5_ok nmX5 hown hE.1 hP hD hS (ws.length + 0) (gl_ats.trans rfl) rfl 3 (by decide) (hts (.fieldLink RX5 28 "RingPetition" "topics" "[LRingPetition$Topic;") (by decide +kernel)) (fun _ h9 => h9) rfl hin rfl (by decide +kernel) rfl rfl (Nat.le_of_ble_eq_true rfl) dX5_init_37 (fun H locs hP hD hS => ?_)
  rw [gl_sets] at hP hD
  have hP : va_P D vwCl (ws ++ [(q, .inr (4, [.ref a1, .ref k3, .int 0, .ref k4, .int 0, .null, .null, .int 0, .null, .null, .null])), (a1, .inr (1, [.ref k2, .int 0])), (k2, eInt (cy 0) 12 (fun _ => 0)), (k3, eRef (cy 3) 8 (fun _ => none)), (k4, eRef (cy 5) 6 (fun _ => none))]) H := hP
  have hD : va_D A (ws ++ [(q, .inr (4, [.ref a1, .ref k3, .int 0, .ref k4, .int 0, .null, .null, .int 0, .null, .null, .null])), (a1, .inr (1, [.ref k2, .int 0])), (k2, eInt (cy 0) 12 (fun _ => 0)), (k3, eRef (cy 3) 8 (fun _ => none)), (k4, eRef (cy 5) 6 (fun _ => none))]) := hD
  refine lv_aload_n hx hb dX5_init_40 rfl (lv_at hl 0 rfl) ?_
  refine lv_iconst (v := 0) hx hb dX5_init_41 (by decide) ?_
  refine va_put (D := D) (ci := 4) (v := .int 0) (ty := .int) (C := RX5) (T := TX5) (N := 11) hx hb hts hin_RX5 tyX5 tyX5_ok nmX5 hown hE.1 hP hD hS (ws.length + 0) (gl_ats.trans rfl) rfl 4 (by decide) (hts (.fieldLink RX5 32 "RingPetition" "topicCount" "I") (by decide +kernel)) (fun _ h9 => h9) rfl (by decide +kernel) rfl rfl (Nat.le_of_ble_eq_true rfl) dX5_init_42 (fun H locs hP hD hS => ?_)
  rw [gl_sets] at hP hD
  have hP : va_P D vwCl (ws ++ [(q, .inr (4, [.ref a1, .ref k3, .int 0, .ref k4, .int 0, .null, .null, .int 0, .null, .null, .null])), (a1, .inr (1, [.ref k2, .int 0])), (k2, eInt (cy 0) 12 (fun _ => 0)), (k3, eRef (cy 3) 8 (fun _ => none)), (k4, eRef (cy 5) 6 (fun _ => none))]) H := hP
  have hD : va_D A (ws ++ [(q, .inr (4, [.ref a1, .ref k3, .int 0, .ref k4, .int 0, .null, .null, .int 0, .null, .null, .null])), (a1, .inr (1, [.ref k2, .int 0])), (k2, eInt (cy 0) 12 (fun _ => 0)), (k3, eRef (cy 3) 8 (fun _ => none)), (k4, eRef (cy 5) 6 (fun _ => none))]) := hD
  refine lv_aload_n hx hb dX5_init_45 rfl (lv_at hl 0 rfl) ?_
  refine va_new (ci := 2) (fs := [.null, .int 0, .int 0, .int 0]) (C := RX3) (T := TX3) (N := 4) hx hb hts hin_RX3 tyX3 tyX3_ok hown (hts (.classLink RX5 35 RX3) (by decide +kernel)) (hts (.instantiable RX3 4) (by decide +kernel)) (hts (.initialized RX3) (by decide +kernel)) hE.1 hP hD hS hA rfl (fun j hj => by rcases (show j = 0 ∨ j = 1 ∨ j = 2 ∨ j = 3 by omega) with rfl | rfl | rfl | rfl <;> rfl) (Nat.le_of_ble_eq_true rfl) (Nat.le_of_ble_eq_true rfl) dX5_init_46 (fun a5 H hP hD hS => ?_)
  refine lv_dup hx hb dX5_init_49 rfl ?_
  refine va_callv (va_runIN (As := []) (rest := [.ref a5, .ref q]) ⟨hx, hb, hml, hown, hts⟩ (kX3_init l (ws := (ws ++ [(q, .inr (4, [.ref a1, .ref k3, .int 0, .ref k4, .int 0, .null, .null, .int 0, .null, .null, .null])), (a1, .inr (1, [.ref k2, .int 0])), (k2, eInt (cy 0) 12 (fun _ => 0)), (k3, eRef (cy 3) 8 (fun _ => none)), (k4, eRef (cy 5) 6 (fun _ => none))])) hD) ⟨va_cnB 0 hts gX5_init_X3_init_n37 rfl rfl rfl (hE.2 _ (List.mem_of_getElem? (i := 4) rfl)) (hts (.initialized RX3) (by decide +kernel)) (by decide +kernel) ⟨Nat.le_of_ble_eq_true rfl, Nat.le_of_ble_eq_true rfl⟩, rfl, hts (.instanceMethod yX3_init) (by decide +kernel)⟩ (rw_ps hE hP hS hA) rfl rfl hl.1 rfl (lv_room (Nat.le_of_ble_eq_true rfl)) dX5_init_50 ⟨Nat.le_of_ble_eq_true rfl, Nat.le_of_ble_eq_true rfl⟩) hS (fun q _ h => h) (fun q h => h) (fun k6 t H1 locs ht hvm hr_ hB_ hz1 hk1 hS => ?_)
  have hD := hr_
  have hP : va_P D vwCl ((ws ++ [(q, .inr (4, [.ref a1, .ref k3, .int 0, .ref k4, .int 0, .null, .null, .int 0, .null, .null, .null])), (a1, .inr (1, [.ref k2, .int 0])), (k2, eInt (cy 0) 12 (fun _ => 0)), (k3, eRef (cy 3) 8 (fun _ => none)), (k4, eRef (cy 5) 6 (fun _ => none))]) ++ [(a5, .inr (2, [.ref k6, .int (nI 2), .int 0, .int 0])), (k6, eInt (cy 0) 8 (fun _ => 0))]) H1 := by rw [← ht]; exact hB_
  clear hB_ hr_ ht hvm hz1 hk1
  rw [List.append_assoc] at hP hD
  have hP : va_P D vwCl (ws ++ [(q, .inr (4, [.ref a1, .ref k3, .int 0, .ref k4, .int 0, .null, .null, .int 0, .null, .null, .null])), (a1, .inr (1, [.ref k2, .int 0])), (k2, eInt (cy 0) 12 (fun _ => 0)), (k3, eRef (cy 3) 8 (fun _ => none)), (k4, eRef (cy 5) 6 (fun _ => none)), (a5, .inr (2, [.ref k6, .int (nI 2), .int 0, .int 0])), (k6, eInt (cy 0) 8 (fun _ => 0))]) H1 := hP
  have hD : va_D A (ws ++ [(q, .inr (4, [.ref a1, .ref k3, .int 0, .ref k4, .int 0, .null, .null, .int 0, .null, .null, .null])), (a1, .inr (1, [.ref k2, .int 0])), (k2, eInt (cy 0) 12 (fun _ => 0)), (k3, eRef (cy 3) 8 (fun _ => none)), (k4, eRef (cy 5) 6 (fun _ => none)), (a5, .inr (2, [.ref k6, .int (nI 2), .int 0, .int 0])), (k6, eInt (cy 0) 8 (fun _ => 0))]) := hD
  generalize H1 = H at hP hS ⊢
  refine va_putF (D := D) (ci := 4) (v := .ref a5) (ty := (.object "RingPetition$Signature")) (C := RX5) (T := TX5) (N := 11) hx hb hts hin_RX5 tyX5 tyX5_ok nmX5 hown hE.1 hP hD hS (ws.length + 0) (gl_ats.trans rfl) rfl 5 (by decide) (hts (.fieldLink RX5 38 "RingPetition" "drafted" "LRingPetition$Signature;") (by decide +kernel)) (fun _ h9 => h9) rfl hin rfl (by decide +kernel) rfl rfl (Nat.le_of_ble_eq_true rfl) dX5_init_53 (fun H locs hP hD hS => ?_)
  rw [gl_sets] at hP hD
  have hP : va_P D vwCl (ws ++ [(q, .inr (4, [.ref a1, .ref k3, .int 0, .ref k4, .int 0, .ref a5, .null, .int 0, .null, .null, .null])), (a1, .inr (1, [.ref k2, .int 0])), (k2, eInt (cy 0) 12 (fun _ => 0)), (k3, eRef (cy 3) 8 (fun _ => none)), (k4, eRef (cy 5) 6 (fun _ => none)), (a5, .inr (2, [.ref k6, .int (nI 2), .int 0, .int 0])), (k6, eInt (cy 0) 8 (fun _ => 0))]) H := hP
  have hD : va_D A (ws ++ [(q, .inr (4, [.ref a1, .ref k3, .int 0, .ref k4, .int 0, .ref a5, .null, .int 0, .null, .null, .null])), (a1, .inr (1, [.ref k2, .int 0])), (k2, eInt (cy 0) 12 (fun _ => 0)), (k3, eRef (cy 3) 8 (fun _ => none)), (k4, eRef (cy 5) 6 (fun _ => none)), (a5, .inr (2, [.ref k6, .int (nI 2), .int 0, .int 0])), (k6, eInt (cy 0) 8 (fun _ => 0))]) := hD
  refine lv_aload_n hx hb dX5_init_56 rfl (lv_at hl 0 rfl) ?_
  refine lv_sipush (v := nI 200) hx hb dX5_init_57 (by decide) ?_
  refine wr_newa (atype := .int) (cy := cy) (a0 := (200, .inl (fun _ => 0))) (ty := .int) hx hb (hts (.arrayClass .int) (by decide +kernel)) rfl 0 rfl hE.1 hP hD hS hA (fun _ => rfl) (by decide) (by decide) (by decide) (Nat.le_of_ble_eq_true rfl) (Nat.le_of_ble_eq_true rfl) dX5_init_60 (fun k7 H hP hD hS => ?_)
  rw [List.append_assoc] at hP hD
  have hP : va_P D vwCl (ws ++ [(q, .inr (4, [.ref a1, .ref k3, .int 0, .ref k4, .int 0, .ref a5, .null, .int 0, .null, .null, .null])), (a1, .inr (1, [.ref k2, .int 0])), (k2, eInt (cy 0) 12 (fun _ => 0)), (k3, eRef (cy 3) 8 (fun _ => none)), (k4, eRef (cy 5) 6 (fun _ => none)), (a5, .inr (2, [.ref k6, .int (nI 2), .int 0, .int 0])), (k6, eInt (cy 0) 8 (fun _ => 0)), (k7, eInt (cy 0) 200 (fun _ => 0))]) H := hP
  have hD : va_D A (ws ++ [(q, .inr (4, [.ref a1, .ref k3, .int 0, .ref k4, .int 0, .ref a5, .null, .int 0, .null, .null, .null])), (a1, .inr (1, [.ref k2, .int 0])), (k2, eInt (cy 0) 12 (fun _ => 0)), (k3, eRef (cy 3) 8 (fun _ => none)), (k4, eRef (cy 5) 6 (fun _ => none)), (a5, .inr (2, [.ref k6, .int (nI 2), .int 0, .int 0])), (k6, eInt (cy 0) 8 (fun _ => 0)), (k7, eInt (cy 0) 200 (fun _ => 0))]) := hD
  refine va_putF (D := D) (ci := 4) (v := .ref k7) (ty := (.array .int)) (C := RX5) (T := TX5) (N := 11) hx hb hts hin_RX5 tyX5 tyX5_ok nmX5 hown hE.1 hP hD hS (ws.length + 0) (gl_ats.trans rfl) rfl 6 (by decide) (hts (.fieldLink RX5 42 "RingPetition" "bundled" "[I") (by decide +kernel)) (fun _ h9 => h9) rfl hin rfl (by decide +kernel) rfl rfl (Nat.le_of_ble_eq_true rfl) dX5_init_62 (fun H locs hP hD hS => ?_)
  rw [gl_sets] at hP hD
  have hP : va_P D vwCl (ws ++ [(q, .inr (4, [.ref a1, .ref k3, .int 0, .ref k4, .int 0, .ref a5, .ref k7, .int 0, .null, .null, .null])), (a1, .inr (1, [.ref k2, .int 0])), (k2, eInt (cy 0) 12 (fun _ => 0)), (k3, eRef (cy 3) 8 (fun _ => none)), (k4, eRef (cy 5) 6 (fun _ => none)), (a5, .inr (2, [.ref k6, .int (nI 2), .int 0, .int 0])), (k6, eInt (cy 0) 8 (fun _ => 0)), (k7, eInt (cy 0) 200 (fun _ => 0))]) H := hP
  have hD : va_D A (ws ++ [(q, .inr (4, [.ref a1, .ref k3, .int 0, .ref k4, .int 0, .ref a5, .ref k7, .int 0, .null, .null, .null])), (a1, .inr (1, [.ref k2, .int 0])), (k2, eInt (cy 0) 12 (fun _ => 0)), (k3, eRef (cy 3) 8 (fun _ => none)), (k4, eRef (cy 5) 6 (fun _ => none)), (a5, .inr (2, [.ref k6, .int (nI 2), .int 0, .int 0])), (k6, eInt (cy 0) 8 (fun _ => 0)), (k7, eInt (cy 0) 200 (fun _ => 0))]) := hD
  refine lv_aload_n hx hb dX5_init_65 rfl (lv_at hl 0 rfl) ?_
  refine lv_iconst (v := 0) hx hb dX5_init_66 (by decide) ?_
  refine va_put (D := D) (ci := 4) (v := .int 0) (ty := .int) (C := RX5) (T := TX5) (N := 11) hx hb hts hin_RX5 tyX5 tyX5_ok nmX5 hown hE.1 hP hD hS (ws.length + 0) (gl_ats.trans rfl) rfl 7 (by decide) (hts (.fieldLink RX5 46 "RingPetition" "bundledCount" "I") (by decide +kernel)) (fun _ h9 => h9) rfl (by decide +kernel) rfl rfl (Nat.le_of_ble_eq_true rfl) dX5_init_67 (fun H locs hP hD hS => ?_)
  rw [gl_sets] at hP hD
  have hP : va_P D vwCl (ws ++ [(q, .inr (4, [.ref a1, .ref k3, .int 0, .ref k4, .int 0, .ref a5, .ref k7, .int 0, .null, .null, .null])), (a1, .inr (1, [.ref k2, .int 0])), (k2, eInt (cy 0) 12 (fun _ => 0)), (k3, eRef (cy 3) 8 (fun _ => none)), (k4, eRef (cy 5) 6 (fun _ => none)), (a5, .inr (2, [.ref k6, .int (nI 2), .int 0, .int 0])), (k6, eInt (cy 0) 8 (fun _ => 0)), (k7, eInt (cy 0) 200 (fun _ => 0))]) H := hP
  have hD : va_D A (ws ++ [(q, .inr (4, [.ref a1, .ref k3, .int 0, .ref k4, .int 0, .ref a5, .ref k7, .int 0, .null, .null, .null])), (a1, .inr (1, [.ref k2, .int 0])), (k2, eInt (cy 0) 12 (fun _ => 0)), (k3, eRef (cy 3) 8 (fun _ => none)), (k4, eRef (cy 5) 6 (fun _ => none)), (a5, .inr (2, [.ref k6, .int (nI 2), .int 0, .int 0])), (k6, eInt (cy 0) 8 (fun _ => 0)), (k7, eInt (cy 0) 200 (fun _ => 0))]) := hD
  refine lv_aload_n hx hb dX5_init_70 rfl (lv_at hl 0 rfl) ?_
  refine va_new (ci := 1) (fs := [.null, .int 0]) (C := RX1) (T := TX1) (N := 2) hx hb hts hin_RX1 tyX1 tyX1_ok hown (hts (.classLink RX5 7 RX1) (by decide +kernel)) (hts (.instantiable RX1 2) (by decide +kernel)) (hts (.initialized RX1) (by decide +kernel)) hE.1 hP hD hS hA rfl (fun j hj => by rcases (show j = 0 ∨ j = 1 by omega) with rfl | rfl <;> rfl) (Nat.le_of_ble_eq_true rfl) (Nat.le_of_ble_eq_true rfl) dX5_init_71 (fun a8 H hP hD hS => ?_)
  refine lv_dup hx hb dX5_init_74 rfl ?_
  refine lv_bipush (v := nI 6) hx hb dX5_init_75 (by decide) ?_
  refine va_callv (va_runI (As := [.int (nI 6)]) (rest := [.ref a8, .ref q]) ⟨hx, hb, hml, hown, hts⟩ (kX1_init l (ws := (ws ++ [(q, .inr (4, [.ref a1, .ref k3, .int 0, .ref k4, .int 0, .ref a5, .ref k7, .int 0, .null, .null, .null])), (a1, .inr (1, [.ref k2, .int 0])), (k2, eInt (cy 0) 12 (fun _ => 0)), (k3, eRef (cy 3) 8 (fun _ => none)), (k4, eRef (cy 5) 6 (fun _ => none)), (a5, .inr (2, [.ref k6, .int (nI 2), .int 0, .int 0])), (k6, eInt (cy 0) 8 (fun _ => 0)), (k7, eInt (cy 0) 200 (fun _ => 0))])) (by decide) hD) (cwI 1 hts ggX5_init_X1_init rfl rfl rfl (hts (.initialized RX1) (by decide +kernel)) (hts (.methodLink RX5 11 yX1_init) (by decide +kernel)) (hts (.instanceMethod yX1_init) (by decide +kernel)) rfl (by decide +kernel) ⟨Nat.le_of_ble_eq_true rfl, Nat.le_of_ble_eq_true rfl⟩) (rw_ps hE hP hS hA) rfl rfl hl.1 rfl (lv_room (Nat.le_of_ble_eq_true rfl)) dX5_init_77 ⟨Nat.le_of_ble_eq_true rfl, Nat.le_of_ble_eq_true rfl⟩) hS (fun q _ h => h) (fun q h => h) (fun k9 t H1 locs ht hvm hr_ hB_ hz1 hk1 hS => ?_)
  have hD := hr_
  have hP : va_P D vwCl ((ws ++ [(q, .inr (4, [.ref a1, .ref k3, .int 0, .ref k4, .int 0, .ref a5, .ref k7, .int 0, .null, .null, .null])), (a1, .inr (1, [.ref k2, .int 0])), (k2, eInt (cy 0) 12 (fun _ => 0)), (k3, eRef (cy 3) 8 (fun _ => none)), (k4, eRef (cy 5) 6 (fun _ => none)), (a5, .inr (2, [.ref k6, .int (nI 2), .int 0, .int 0])), (k6, eInt (cy 0) 8 (fun _ => 0)), (k7, eInt (cy 0) 200 (fun _ => 0))]) ++ [(a8, .inr (1, [.ref k9, .int 0])), (k9, eInt (cy 0) 6 (fun _ => 0))]) H1 := by rw [← ht]; exact hB_
  clear hB_ hr_ ht hvm hz1 hk1
  rw [List.append_assoc] at hP hD
  have hP : va_P D vwCl (ws ++ [(q, .inr (4, [.ref a1, .ref k3, .int 0, .ref k4, .int 0, .ref a5, .ref k7, .int 0, .null, .null, .null])), (a1, .inr (1, [.ref k2, .int 0])), (k2, eInt (cy 0) 12 (fun _ => 0)), (k3, eRef (cy 3) 8 (fun _ => none)), (k4, eRef (cy 5) 6 (fun _ => none)), (a5, .inr (2, [.ref k6, .int (nI 2), .int 0, .int 0])), (k6, eInt (cy 0) 8 (fun _ => 0)), (k7, eInt (cy 0) 200 (fun _ => 0)), (a8, .inr (1, [.ref k9, .int 0])), (k9, eInt (cy 0) 6 (fun _ => 0))]) H1 := hP
  have hD : va_D A (ws ++ [(q, .inr (4, [.ref a1, .ref k3, .int 0, .ref k4, .int 0, .ref a5, .ref k7, .int 0, .null, .null, .null])), (a1, .inr (1, [.ref k2, .int 0])), (k2, eInt (cy 0) 12 (fun _ => 0)), (k3, eRef (cy 3) 8 (fun _ => none)), (k4, eRef (cy 5) 6 (fun _ => none)), (a5, .inr (2, [.ref k6, .int (nI 2), .int 0, .int 0])), (k6, eInt (cy 0) 8 (fun _ => 0)), (k7, eInt (cy 0) 200 (fun _ => 0)), (a8, .inr (1, [.ref k9, .int 0])), (k9, eInt (cy 0) 6 (fun _ => 0))]) := hD
  generalize H1 = H at hP hS ⊢
  refine va_putF (D := D) (ci := 4) (v := .ref a8) (ty := (.object "RingPetition$KeyRow")) (C := RX5) (T := TX5) (N := 11) hx hb hts hin_RX5 tyX5 tyX5_ok nmX5 hown hE.1 hP hD hS (ws.length + 0) (gl_ats.trans rfl) rfl 8 (by decide) (hts (.fieldLink RX5 49 "RingPetition" "readRing" "LRingPetition$KeyRow;") (by decide +kernel)) (fun _ h9 => h9) rfl hin rfl (by decide +kernel) rfl rfl (Nat.le_of_ble_eq_true rfl) dX5_init_80 (fun H locs hP hD hS => ?_)
  rw [gl_sets] at hP hD
  have hP : va_P D vwCl (ws ++ [(q, .inr (4, [.ref a1, .ref k3, .int 0, .ref k4, .int 0, .ref a5, .ref k7, .int 0, .ref a8, .null, .null])), (a1, .inr (1, [.ref k2, .int 0])), (k2, eInt (cy 0) 12 (fun _ => 0)), (k3, eRef (cy 3) 8 (fun _ => none)), (k4, eRef (cy 5) 6 (fun _ => none)), (a5, .inr (2, [.ref k6, .int (nI 2), .int 0, .int 0])), (k6, eInt (cy 0) 8 (fun _ => 0)), (k7, eInt (cy 0) 200 (fun _ => 0)), (a8, .inr (1, [.ref k9, .int 0])), (k9, eInt (cy 0) 6 (fun _ => 0))]) H := hP
  have hD : va_D A (ws ++ [(q, .inr (4, [.ref a1, .ref k3, .int 0, .ref k4, .int 0, .ref a5, .ref k7, .int 0, .ref a8, .null, .null])), (a1, .inr (1, [.ref k2, .int 0])), (k2, eInt (cy 0) 12 (fun _ => 0)), (k3, eRef (cy 3) 8 (fun _ => none)), (k4, eRef (cy 5) 6 (fun _ => none)), (a5, .inr (2, [.ref k6, .int (nI 2), .int 0, .int 0])), (k6, eInt (cy 0) 8 (fun _ => 0)), (k7, eInt (cy 0) 200 (fun _ => 0)), (a8, .inr (1, [.ref k9, .int 0])), (k9, eInt (cy 0) 6 (fun _ => 0))]) := hD
  refine lv_aload_n hx hb dX5_init_83 rfl (lv_at hl 0 rfl) ?_
  refine va_new (ci := 2) (fs := [.null, .int 0, .int 0, .int 0]) (C := RX3) (T := TX3) (N := 4) hx hb hts hin_RX3 tyX3 tyX3_ok hown (hts (.classLink RX5 35 RX3) (by decide +kernel)) (hts (.instantiable RX3 4) (by decide +kernel)) (hts (.initialized RX3) (by decide +kernel)) hE.1 hP hD hS hA rfl (fun j hj => by rcases (show j = 0 ∨ j = 1 ∨ j = 2 ∨ j = 3 by omega) with rfl | rfl | rfl | rfl <;> rfl) (Nat.le_of_ble_eq_true rfl) (Nat.le_of_ble_eq_true rfl) dX5_init_84 (fun a10 H hP hD hS => ?_)
  refine lv_dup hx hb dX5_init_87 rfl ?_
  refine va_callv (va_runIN (As := []) (rest := [.ref a10, .ref q]) ⟨hx, hb, hml, hown, hts⟩ (kX3_init l (ws := (ws ++ [(q, .inr (4, [.ref a1, .ref k3, .int 0, .ref k4, .int 0, .ref a5, .ref k7, .int 0, .ref a8, .null, .null])), (a1, .inr (1, [.ref k2, .int 0])), (k2, eInt (cy 0) 12 (fun _ => 0)), (k3, eRef (cy 3) 8 (fun _ => none)), (k4, eRef (cy 5) 6 (fun _ => none)), (a5, .inr (2, [.ref k6, .int (nI 2), .int 0, .int 0])), (k6, eInt (cy 0) 8 (fun _ => 0)), (k7, eInt (cy 0) 200 (fun _ => 0)), (a8, .inr (1, [.ref k9, .int 0])), (k9, eInt (cy 0) 6 (fun _ => 0))])) hD) ⟨va_cnB 0 hts gX5_init_X3_init_n37 rfl rfl rfl (hE.2 _ (List.mem_of_getElem? (i := 4) rfl)) (hts (.initialized RX3) (by decide +kernel)) (by decide +kernel) ⟨Nat.le_of_ble_eq_true rfl, Nat.le_of_ble_eq_true rfl⟩, rfl, hts (.instanceMethod yX3_init) (by decide +kernel)⟩ (rw_ps hE hP hS hA) rfl rfl hl.1 rfl (lv_room (Nat.le_of_ble_eq_true rfl)) dX5_init_88 ⟨Nat.le_of_ble_eq_true rfl, Nat.le_of_ble_eq_true rfl⟩) hS (fun q _ h => h) (fun q h => h) (fun k11 t H1 locs ht hvm hr_ hB_ hz1 hk1 hS => ?_)
  have hD := hr_
  have hP : va_P D vwCl ((ws ++ [(q, .inr (4, [.ref a1, .ref k3, .int 0, .ref k4, .int 0, .ref a5, .ref k7, .int 0, .ref a8, .null, .null])), (a1, .inr (1, [.ref k2, .int 0])), (k2, eInt (cy 0) 12 (fun _ => 0)), (k3, eRef (cy 3) 8 (fun _ => none)), (k4, eRef (cy 5) 6 (fun _ => none)), (a5, .inr (2, [.ref k6, .int (nI 2), .int 0, .int 0])), (k6, eInt (cy 0) 8 (fun _ => 0)), (k7, eInt (cy 0) 200 (fun _ => 0)), (a8, .inr (1, [.ref k9, .int 0])), (k9, eInt (cy 0) 6 (fun _ => 0))]) ++ [(a10, .inr (2, [.ref k11, .int (nI 2), .int 0, .int 0])), (k11, eInt (cy 0) 8 (fun _ => 0))]) H1 := by rw [← ht]; exact hB_
  clear hB_ hr_ ht hvm hz1 hk1
  rw [List.append_assoc] at hP hD
  have hP : va_P D vwCl (ws ++ [(q, .inr (4, [.ref a1, .ref k3, .int 0, .ref k4, .int 0, .ref a5, .ref k7, .int 0, .ref a8, .null, .null])), (a1, .inr (1, [.ref k2, .int 0])), (k2, eInt (cy 0) 12 (fun _ => 0)), (k3, eRef (cy 3) 8 (fun _ => none)), (k4, eRef (cy 5) 6 (fun _ => none)), (a5, .inr (2, [.ref k6, .int (nI 2), .int 0, .int 0])), (k6, eInt (cy 0) 8 (fun _ => 0)), (k7, eInt (cy 0) 200 (fun _ => 0)), (a8, .inr (1, [.ref k9, .int 0])), (k9, eInt (cy 0) 6 (fun _ => 0)), (a10, .inr (2, [.ref k11, .int (nI 2), .int 0, .int 0])), (k11, eInt (cy 0) 8 (fun _ => 0))]) H1 := hP
  have hD : va_D A (ws ++ [(q, .inr (4, [.ref a1, .ref k3, .int 0, .ref k4, .int 0, .ref a5, .ref k7, .int 0, .ref a8, .null, .null])), (a1, .inr (1, [.ref k2, .int 0])), (k2, eInt (cy 0) 12 (fun _ => 0)), (k3, eRef (cy 3) 8 (fun _ => none)), (k4, eRef (cy 5) 6 (fun _ => none)), (a5, .inr (2, [.ref k6, .int (nI 2), .int 0, .int 0])), (k6, eInt (cy 0) 8 (fun _ => 0)), (k7, eInt (cy 0) 200 (fun _ => 0)), (a8, .inr (1, [.ref k9, .int 0])), (k9, eInt (cy 0) 6 (fun _ => 0)), (a10, .inr (2, [.ref k11, .int (nI 2), .int 0, .int 0])), (k11, eInt (cy 0) 8 (fun _ => 0))]) := hD
  generalize H1 = H at hP hS ⊢
  refine va_putF (D := D) (ci := 4) (v := .ref a10) (ty := (.object "RingPetition$Signature")) (C := RX5) (T := TX5) (N := 11) hx hb hts hin_RX5 tyX5 tyX5_ok nmX5 hown hE.1 hP hD hS (ws.length + 0) (gl_ats.trans rfl) rfl 9 (by decide) (hts (.fieldLink RX5 52 "RingPetition" "readSignature" "LRingPetition$Signature;") (by decide +kernel)) (fun _ h9 => h9) rfl hin rfl (by decide +kernel) rfl rfl (Nat.le_of_ble_eq_true rfl) dX5_init_91 (fun H locs hP hD hS => ?_)
  rw [gl_sets] at hP hD
  have hP : va_P D vwCl (ws ++ [(q, .inr (4, [.ref a1, .ref k3, .int 0, .ref k4, .int 0, .ref a5, .ref k7, .int 0, .ref a8, .ref a10, .null])), (a1, .inr (1, [.ref k2, .int 0])), (k2, eInt (cy 0) 12 (fun _ => 0)), (k3, eRef (cy 3) 8 (fun _ => none)), (k4, eRef (cy 5) 6 (fun _ => none)), (a5, .inr (2, [.ref k6, .int (nI 2), .int 0, .int 0])), (k6, eInt (cy 0) 8 (fun _ => 0)), (k7, eInt (cy 0) 200 (fun _ => 0)), (a8, .inr (1, [.ref k9, .int 0])), (k9, eInt (cy 0) 6 (fun _ => 0)), (a10, .inr (2, [.ref k11, .int (nI 2), .int 0, .int 0])), (k11, eInt (cy 0) 8 (fun _ => 0))]) H := hP
  have hD : va_D A (ws ++ [(q, .inr (4, [.ref a1, .ref k3, .int 0, .ref k4, .int 0, .ref a5, .ref k7, .int 0, .ref a8, .ref a10, .null])), (a1, .inr (1, [.ref k2, .int 0])), (k2, eInt (cy 0) 12 (fun _ => 0)), (k3, eRef (cy 3) 8 (fun _ => none)), (k4, eRef (cy 5) 6 (fun _ => none)), (a5, .inr (2, [.ref k6, .int (nI 2), .int 0, .int 0])), (k6, eInt (cy 0) 8 (fun _ => 0)), (k7, eInt (cy 0) 200 (fun _ => 0)), (a8, .inr (1, [.ref k9, .int 0])), (k9, eInt (cy 0) 6 (fun _ => 0)), (a10, .inr (2, [.ref k11, .int (nI 2), .int 0, .int 0])), (k11, eInt (cy 0) 8 (fun _ => 0))]) := hD
  refine lv_aload_n hx hb dX5_init_94 rfl (lv_at hl 0 rfl) ?_
  refine lv_bipush (v := nI 8) hx hb dX5_init_95 (by decide) ?_
  refine wr_newa (atype := .int) (cy := cy) (a0 := (8, .inl (fun _ => 0))) (ty := .int) hx hb (hts (.arrayClass .int) (by decide +kernel)) rfl 0 rfl hE.1 hP hD hS hA (fun _ => rfl) (by decide) (by decide) (by decide) (Nat.le_of_ble_eq_true rfl) (Nat.le_of_ble_eq_true rfl) dX5_init_97 (fun k12 H hP hD hS => ?_)
  rw [List.append_assoc] at hP hD
  have hP : va_P D vwCl (ws ++ [(q, .inr (4, [.ref a1, .ref k3, .int 0, .ref k4, .int 0, .ref a5, .ref k7, .int 0, .ref a8, .ref a10, .null])), (a1, .inr (1, [.ref k2, .int 0])), (k2, eInt (cy 0) 12 (fun _ => 0)), (k3, eRef (cy 3) 8 (fun _ => none)), (k4, eRef (cy 5) 6 (fun _ => none)), (a5, .inr (2, [.ref k6, .int (nI 2), .int 0, .int 0])), (k6, eInt (cy 0) 8 (fun _ => 0)), (k7, eInt (cy 0) 200 (fun _ => 0)), (a8, .inr (1, [.ref k9, .int 0])), (k9, eInt (cy 0) 6 (fun _ => 0)), (a10, .inr (2, [.ref k11, .int (nI 2), .int 0, .int 0])), (k11, eInt (cy 0) 8 (fun _ => 0)), (k12, eInt (cy 0) 8 (fun _ => 0))]) H := hP
  have hD : va_D A (ws ++ [(q, .inr (4, [.ref a1, .ref k3, .int 0, .ref k4, .int 0, .ref a5, .ref k7, .int 0, .ref a8, .ref a10, .null])), (a1, .inr (1, [.ref k2, .int 0])), (k2, eInt (cy 0) 12 (fun _ => 0)), (k3, eRef (cy 3) 8 (fun _ => none)), (k4, eRef (cy 5) 6 (fun _ => none)), (a5, .inr (2, [.ref k6, .int (nI 2), .int 0, .int 0])), (k6, eInt (cy 0) 8 (fun _ => 0)), (k7, eInt (cy 0) 200 (fun _ => 0)), (a8, .inr (1, [.ref k9, .int 0])), (k9, eInt (cy 0) 6 (fun _ => 0)), (a10, .inr (2, [.ref k11, .int (nI 2), .int 0, .int 0])), (k11, eInt (cy 0) 8 (fun _ => 0)), (k12, eInt (cy 0) 8 (fun _ => 0))]) := hD
  refine va_putF (D := D) (ci := 4) (v := .ref k12) (ty := (.array .int)) (C := RX5) (T := TX5) (N := 11) hx hb hts hin_RX5 tyX5 tyX5_ok nmX5 hown hE.1 hP hD hS (ws.length + 0) (gl_ats.trans rfl) rfl 10 (by decide) (hts (.fieldLink RX5 55 "RingPetition" "readTags" "[I") (by decide +kernel)) (fun _ h9 => h9) rfl hin rfl (by decide +kernel) rfl rfl (Nat.le_of_ble_eq_true rfl) dX5_init_99 (fun H locs hP hD hS => ?_)
  rw [gl_sets] at hP hD
  have hP : va_P D vwCl (ws ++ [(q, .inr (4, [.ref a1, .ref k3, .int 0, .ref k4, .int 0, .ref a5, .ref k7, .int 0, .ref a8, .ref a10, .ref k12])), (a1, .inr (1, [.ref k2, .int 0])), (k2, eInt (cy 0) 12 (fun _ => 0)), (k3, eRef (cy 3) 8 (fun _ => none)), (k4, eRef (cy 5) 6 (fun _ => none)), (a5, .inr (2, [.ref k6, .int (nI 2), .int 0, .int 0])), (k6, eInt (cy 0) 8 (fun _ => 0)), (k7, eInt (cy 0) 200 (fun _ => 0)), (a8, .inr (1, [.ref k9, .int 0])), (k9, eInt (cy 0) 6 (fun _ => 0)), (a10, .inr (2, [.ref k11, .int (nI 2), .int 0, .int 0])), (k11, eInt (cy 0) 8 (fun _ => 0)), (k12, eInt (cy 0) 8 (fun _ => 0))]) H := hP
  have hD : va_D A (ws ++ [(q, .inr (4, [.ref a1, .ref k3, .int 0, .ref k4, .int 0, .ref a5, .ref k7, .int 0, .ref a8, .ref a10, .ref k12])), (a1, .inr (1, [.ref k2, .int 0])), (k2, eInt (cy 0) 12 (fun _ => 0)), (k3, eRef (cy 3) 8 (fun _ => none)), (k4, eRef (cy 5) 6 (fun _ => none)), (a5, .inr (2, [.ref k6, .int (nI 2), .int 0, .int 0])), (k6, eInt (cy 0) 8 (fun _ => 0)), (k7, eInt (cy 0) 200 (fun _ => 0)), (a8, .inr (1, [.ref k9, .int 0])), (k9, eInt (cy 0) 6 (fun _ => 0)), (a10, .inr (2, [.ref k11, .int (nI 2), .int 0, .int 0])), (k11, eInt (cy 0) 8 (fun _ => 0)), (k12, eInt (cy 0) 8 (fun _ => 0))]) := hD
  refine lv_iconst (v := nI 0) hx hb dX5_init_102 (by decide) ?_
  refine lv_istore_n (lv' := [(1, .int (nI 0)), (0, .ref q)]) hx hb dX5_init_103 rfl hl (by decide) rfl (fun ls hl => ?_)
  have hw : (ws ++ [(q, .inr (4, [.ref a1, .ref k3, .int 0, .ref k4, .int 0, .ref a5, .ref k7, .int 0, .ref a8, .ref a10, .ref k12])), (a1, .inr (1, [.ref k2, .int 0])), (k2, eInt (cy 0) 12 (fun _ => 0)), (k3, eRef (cy 3) 8 (fun _ => none)), (k4, eRef (cy 5) 6 (fun _ => none)), (a5, .inr (2, [.ref k6, .int (nI 2), .int 0, .int 0])), (k6, eInt (cy 0) 8 (fun _ => 0)), (k7, eInt (cy 0) 200 (fun _ => 0)), (a8, .inr (1, [.ref k9, .int 0])), (k9, eInt (cy 0) 6 (fun _ => 0)), (a10, .inr (2, [.ref k11, .int (nI 2), .int 0, .int 0])), (k11, eInt (cy 0) 8 (fun _ => 0)), (k12, eInt (cy 0) 8 (fun _ => 0))] : va_W) = ws ++ (rpH cy (fun j => if j = 0 then q else if j = 1 then a1 else if j = 2 then k2 else if j = 3 then k3 else if j = 4 then k4 else if j = 5 then a5 else if j = 6 then k6 else if j = 7 then k7 else if j = 8 then a8 else if j = 9 then k9 else if j = 10 then a10 else if j = 11 then k11 else k12) (rgA (fun j => if j = 0 then q else if j = 1 then a1 else if j = 2 then k2 else if j = 3 then k3 else if j = 4 then k4 else if j = 5 then a5 else if j = 6 then k6 else if j = 7 then k7 else if j = 8 then a8 else if j = 9 then k9 else if j = 10 then a10 else if j = 11 then k11 else k12) 0) (tpB (fun j => if j = 0 then q else if j = 1 then a1 else if j = 2 then k2 else if j = 3 then k3 else if j = 4 then k4 else if j = 5 then a5 else if j = 6 then k6 else if j = 7 then k7 else if j = 8 then a8 else if j = 9 then k9 else if j = 10 then a10 else if j = 11 then k11 else k12) 0) ++ rgS cy (fun j => if j = 0 then q else if j = 1 then a1 else if j = 2 then k2 else if j = 3 then k3 else if j = 4 then k4 else if j = 5 then a5 else if j = 6 then k6 else if j = 7 then k7 else if j = 8 then a8 else if j = 9 then k9 else if j = 10 then a10 else if j = 11 then k11 else k12) 0) := rfl
  rw [hw] at hP hD
  clear hw
  generalize hu9 : (fun j => if j = 0 then q else if j = 1 then a1 else if j = 2 then k2 else if j = 3 then k3 else if j = 4 then k4 else if j = 5 then a5 else if j = 6 then k6 else if j = 7 then k7 else if j = 8 then a8 else if j = 9 then k9 else if j = 10 then a10 else if j = 11 then k11 else k12) = u9 at hP hD
  have hu0 : u9 0 = q := by rw [← hu9]; rfl
  clear hu9
  refine wloopA (fun kq (xq : Nat × (Nat → Nat)) H locs cc9 ss9 ls => kq = 8 - xq.1 ∧ (xq.1 ≤ 8 ∧ xq.2 0 = q ∧ cc9 ≤ 12 + 2 * xq.1 ∧ ss9 ≤ 274 + 14 * xq.1) ∧ (va_P D vwCl (ws ++ (rpH cy xq.2 (rgA xq.2 xq.1) (tpB xq.2 0) ++ rgS cy xq.2 xq.1)) H ∧ va_D A (ws ++ (rpH cy xq.2 (rgA xq.2 xq.1) (tpB xq.2 0) ++ rgS cy xq.2 xq.1))) ∧ va_S A s.heap H locs ∧ lv_has ls 2 [(1, .int (nI xq.1)), (0, .ref q)]) (fun kx x104 H locs cc9 ss9 ls h104 ih104 => ?_) _ (0, u9) _ _ _ _ ls ⟨rfl, ⟨Nat.zero_le _, hu0, by omega, by omega⟩, ⟨hP, hD⟩, hS, hl⟩
  obtain ⟨i, u⟩ := x104
  obtain ⟨hkx, hI, ⟨hP, hD⟩, hS, hl⟩ := h104
  have hkx : kx = 8 - i := hkx
  have hI : i ≤ 8 ∧ u 0 = q ∧ cc9 ≤ 12 + 2 * i ∧ ss9 ≤ 274 + 14 * i := hI
  obtain ⟨hi8, hu0, hcc, hss⟩ := hI
  have hP : va_P D vwCl (ws ++ (rpH cy u (rgA u i) (tpB u 0) ++ rgS cy u i)) H := hP
  have hD : va_D A (ws ++ (rpH cy u (rgA u i) (tpB u 0) ++ rgS cy u i)) := hD
  have hl : lv_has ls 2 [(1, .int (nI i)), (0, .ref q)] := hl
  refine lv_iload_n hx hb dX5_init_104 rfl (lv_at hl 0 rfl) ?_
  refine lv_bipush (v := nI 8) hx hb dX5_init_105 (by decide) ?_
  refine lv_icmp_ge (tgt := 131) hx hb dX5_init_107 (by decide) (fun c1 => ?_) (fun c1 => ?_)
  · have c1 := (nI_leI (by omega) (by omega)).mp c1
    have he : i = 8 := by omega
    rw [he] at hP hD
    refine lv_iconst (v := nI 0) hx hb dX5_init_131 (by decide) ?_
    refine lv_istore_n (lv' := [(1, .int (nI 0)), (0, .ref q)]) hx hb dX5_init_132 rfl hl (by decide) rfl (fun ls hl => ?_)
    have hw : (ws ++ (rpH cy u (rgA u 8) (tpB u 0) ++ rgS cy u 8) : va_W) = ws ++ (rpH cy u (rgA u 8) (tpB u 0) ++ rgS cy u 8 ++ tops cy u 0) := by rw [show tops cy u 0 = [] from rfl, List.append_nil]
    rw [hw] at hP hD
    clear hw
    refine wloopA (fun kq (xq : Nat × (Nat → Nat)) H locs cd9 sd9 ls => kq = 6 - xq.1 ∧ (xq.1 ≤ 6 ∧ xq.2 0 = q ∧ cd9 ≤ 28 + 18 * xq.1 ∧ sd9 ≤ 386 + 109 * xq.1) ∧ (va_P D vwCl (ws ++ (rpH cy xq.2 (rgA xq.2 8) (tpB xq.2 xq.1) ++ rgS cy xq.2 8 ++ tops cy xq.2 xq.1)) H ∧ va_D A (ws ++ (rpH cy xq.2 (rgA xq.2 8) (tpB xq.2 xq.1) ++ rgS cy xq.2 8 ++ tops cy xq.2 xq.1))) ∧ va_S A s.heap H locs ∧ lv_has ls 2 [(1, .int (nI xq.1)), (0, .ref q)]) (fun kz x133 H locs cd9 sd9 ls h133 ih133 => ?_) _ (0, u) _ _ _ _ ls ⟨rfl, ⟨Nat.zero_le _, hu0, by show cc9 ≤ _; omega, by show ss9 ≤ _; omega⟩, ⟨hP, hD⟩, hS, hl⟩
    clear ih104
    obtain ⟨i2, w⟩ := x133
    obtain ⟨hkz, hI, ⟨hP, hD⟩, hS, hl⟩ := h133
    have hkz : kz = 6 - i2 := hkz
    have hI : i2 ≤ 6 ∧ w 0 = q ∧ cd9 ≤ 28 + 18 * i2 ∧ sd9 ≤ 386 + 109 * i2 := hI
    obtain ⟨hi6, hw0, hcd, hsd⟩ := hI
    have hP : va_P D vwCl (ws ++ (rpH cy w (rgA w 8) (tpB w i2) ++ rgS cy w 8 ++ tops cy w i2)) H := hP
    have hD : va_D A (ws ++ (rpH cy w (rgA w 8) (tpB w i2) ++ rgS cy w 8 ++ tops cy w i2)) := hD
    have hl : lv_has ls 2 [(1, .int (nI i2)), (0, .ref q)] := hl
    refine lv_iload_n hx hb dX5_init_133 rfl (lv_at hl 0 rfl) ?_
    refine lv_bipush (v := nI 6) hx hb dX5_init_134 (by decide) ?_
    refine lv_icmp_ge (tgt := 158) hx hb dX5_init_136 (by decide) (fun c2 => ?_) (fun c2 => ?_)
    · have c2 := (nI_leI (by omega) (by omega)).mp c2
      have he : i2 = 6 := by omega
      rw [he] at hP hD
      refine W.widen (k := 136) (n := 1040) (by omega) (by omega) ?_
      exact W.vret hx hb hr (fun t ht hW => ⟨⟨w, rfl, ⟨hw0, hD⟩, (by show va_P D vwCl (ws ++ (rpH cy w (rgA w 8) (tpB w 6) ++ rgS cy w 8 ++ tops cy w 6)) t.heap; rw [ht]; exact hP)⟩, hS.F ht⟩) hS.2.2 dX5_init_158
    · have c2 := mt (nI_leI (by omega) (by omega)).mpr c2
      have hi : i2 < 6 := by omega
      have q1 : cd9 + 1 ≤ 136 := by omega
      have q2 : sd9 + 5 ≤ 1040 := by omega
      have q3 : cd9 + 1 + 17 ≤ 136 := by omega
      have q4 : sd9 + 5 + 104 ≤ 1040 := by omega
      rw [← hw0] at hl
      refine lv_aload_n hx hb dX5_init_139 rfl (lv_at hl 1 rfl) ?_
      refine va_get (D := D) (ci := 4) (v := .ref (w 4)) (C := RX5) (T := TX5) (N := 11) hx hb hts hin_RX5 hown hE.1 hP (ws.length + 0) (show (ws ++ (rpH cy w (rgA w 8) (tpB w i2) ++ rgS cy w 8 ++ tops cy w i2))[ws.length + 0]? = some (w 0, .inr (4, [.ref (w 1), .ref (w 3), .int 0, .ref (w 4), .int 0, .ref (w 5), .ref (w 7), .int 0, .ref (w 8), .ref (w 10), .ref (w 12)])) from gl_ats.trans rfl) rfl 3 (by decide) (hts (.fieldLink RX5 28 "RingPetition" "topics" "[LRingPetition$Topic;") (by decide +kernel)) (fun _ h9 => h9) rfl dX5_init_140 ?_
      refine lv_iload_n hx hb dX5_init_143 rfl (lv_at hl 0 rfl) ?_
      refine va_new (ci := 3) (fs := [.int 0, .int 0, .int 0, .null, .int 0]) (C := RX4) (T := TX4) (N := 5) hx hb hts hin_RX4 tyX4 tyX4_ok hown (hts (.classLink RX5 26 RX4) (by decide +kernel)) (hts (.instantiable RX4 5) (by decide +kernel)) (hts (.initialized RX4) (by decide +kernel)) hE.1 hP hD hS hA rfl (fun j hj => by rcases (show j = 0 ∨ j = 1 ∨ j = 2 ∨ j = 3 ∨ j = 4 by omega) with rfl | rfl | rfl | rfl | rfl <;> rfl) q1 q2 dX5_init_144 (fun a1 H hP hD hS => ?_)
      refine lv_dup hx hb dX5_init_147 rfl ?_
      refine va_callv (va_runI (As := []) (rest := [.ref a1, .int (nI i2), .ref (w 4)]) ⟨hx, hb, hml, hown, hts⟩ (kX4_init l (ws := ws ++ (rpH cy w (rgA w 8) (tpB w i2) ++ rgS cy w 8 ++ tops cy w i2)) hD) (cwI 0 hts ggX5_init_X4_init rfl rfl rfl (hts (.initialized RX4) (by decide +kernel)) (hts (.methodLink RX5 58 yX4_init) (by decide +kernel)) (hts (.instanceMethod yX4_init) (by decide +kernel)) rfl (by decide +kernel) ⟨Nat.le_of_ble_eq_true rfl, Nat.le_of_ble_eq_true rfl⟩) (cw_ps hE hO hP hS hA) rfl rfl hl.1 rfl (lv_room (Nat.le_of_ble_eq_true rfl)) dX5_init_148 ⟨q3, q4⟩) hS (fun q _ h => h) (fun q h => h) (fun v t H1 locs ht hvm hr_ hB_ hz1 hk1 hS => ?_)
      obtain ⟨hv0, hD⟩ := hr_
      have hP : va_P D vwCl ((ws ++ (rpH cy w (rgA w 8) (tpB w i2) ++ rgS cy w 8 ++ tops cy w i2)) ++ tpC cy 8 v) H1 := by rw [← ht]; exact hB_
      have hv : ((ws ++ (rpH cy w (rgA w 8) (tpB w i2) ++ rgS cy w 8 ++ tops cy w i2)) ++ tpC cy 8 v)[(ws ++ (rpH cy w (rgA w 8) (tpB w i2) ++ rgS cy w 8 ++ tops cy w i2)).length + 0]? = some (v 0, .inr (3, [.int 0, .int (nI 4), .int 0, .ref (v 1), .int 0])) := gl_ats.trans rfl
      clear hB_ ht hvm hz1 hk1
      generalize hidx : (ws ++ (rpH cy w (rgA w 8) (tpB w i2) ++ rgS cy w 8 ++ tops cy w i2)).length + 0 = ix at hv
      rw [List.append_assoc ws] at hP hD hv
      rw [← hv0]
      refine va_astq (D := D) (cl := vwCl) hx hb hE.1 hP hD hS (ws.length + 4) 5 ix 3 (show (ws ++ ((rpH cy w (rgA w 8) (tpB w i2) ++ rgS cy w 8 ++ tops cy w i2) ++ tpC cy 8 v))[ws.length + 4]? = some (w 4, eRef (cy 5) 6 (tpB w i2)) from gl_ats.trans rfl) rfl hv rfl (vn_ins rfl hi (by decide)) dX5_init_151 (fun H locs hP hD hS => ?_)
      rw [nI_clamp (show i2 < 2 ^ 31 by omega), gl_sets, rp_t] at hP hD
      refine lv_iinc (v := nI (i2 + 1)) (lv' := [(1, .int (nI (i2 + 1))), (0, .ref (w 0))]) hx hb dX5_init_152 hl (k := 0) rfl (nI_1 _) (by decide) rfl (fun ls hl => ?_)
      refine lv_goto (tgt := 133) hx hb dX5_init_155 (by decide) ?_
      have hl : lv_has ls 2 [(1, .int (nI (i2 + 1))), (0, .ref q)] := by rw [← hw0]; exact hl
      exact ih133 _ (i2 + 1, tpV w i2 v) _ _ _ _ _ (by omega) ⟨rfl, ⟨hi, (tpV_lt (by omega)).trans hw0, by show cd9 + 1 + 17 ≤ 28 + 18 * (i2 + 1); omega, by show sd9 + 5 + 104 ≤ 386 + 109 * (i2 + 1); omega⟩, ⟨hP, hD⟩, hS, hl⟩
  · have c1 := mt (nI_leI (by omega) (by omega)).mpr c1
    have hi : i < 8 := by omega
    have q1 : cc9 + 1 ≤ 136 := by omega
    have q2 : ss9 + 2 ≤ 1040 := by omega
    have q3 : cc9 + 1 + 1 ≤ 136 := by omega
    have q4 : ss9 + 2 + 12 ≤ 1040 := by omega
    rw [← hu0] at hl
    refine lv_aload_n hx hb dX5_init_110 rfl (lv_at hl 1 rfl) ?_
    refine va_get (D := D) (ci := 4) (v := .ref (u 3)) (C := RX5) (T := TX5) (N := 11) hx hb hts hin_RX5 hown hE.1 hP (ws.length + 0) (show (ws ++ (rpH cy u (rgA u i) (tpB u 0) ++ rgS cy u i))[ws.length + 0]? = some (u 0, .inr (4, [.ref (u 1), .ref (u 3), .int 0, .ref (u 4), .int 0, .ref (u 5), .ref (u 7), .int 0, .ref (u 8), .ref (u 10), .ref (u 12)])) from gl_ats.trans rfl) rfl 1 (by decide) (hts (.fieldLink RX5 18 "RingPetition" "rings" "[LRingPetition$KeyRow;") (by decide +kernel)) (fun _ h9 => h9) rfl dX5_init_111 ?_
    refine lv_iload_n hx hb dX5_init_114 rfl (lv_at hl 0 rfl) ?_
    refine va_new (ci := 1) (fs := [.null, .int 0]) (C := RX1) (T := TX1) (N := 2) hx hb hts hin_RX1 tyX1 tyX1_ok hown (hts (.classLink RX5 7 RX1) (by decide +kernel)) (hts (.instantiable RX1 2) (by decide +kernel)) (hts (.initialized RX1) (by decide +kernel)) hE.1 hP hD hS hA rfl (fun j hj => by rcases (show j = 0 ∨ j = 1 by omega) with rfl | rfl <;> rfl) q1 q2 dX5_init_115 (fun a1 H hP hD hS => ?_)
    refine lv_dup hx hb dX5_init_118 rfl ?_
    refine lv_bipush (v := nI 6) hx hb dX5_init_119 (by decide) ?_
    refine va_callv (va_runI (As := [.int (nI 6)]) (rest := [.ref a1, .int (nI i), .ref (u 3)]) ⟨hx, hb, hml, hown, hts⟩ (kX1_init l (ws := ws ++ (rpH cy u (rgA u i) (tpB u 0) ++ rgS cy u i)) (by decide) hD) (cwI 1 hts ggX5_init_X1_init rfl rfl rfl (hts (.initialized RX1) (by decide +kernel)) (hts (.methodLink RX5 11 yX1_init) (by decide +kernel)) (hts (.instanceMethod yX1_init) (by decide +kernel)) rfl (by decide +kernel) ⟨Nat.le_of_ble_eq_true rfl, Nat.le_of_ble_eq_true rfl⟩) (rw_ps hE hP hS hA) rfl rfl hl.1 rfl (lv_room (Nat.le_of_ble_eq_true rfl)) dX5_init_121 ⟨q3, q4⟩) hS (fun q _ h => h) (fun q h => h) (fun k1 t H1 locs ht hvm hr_ hB_ hz1 hk1 hS => ?_)
    have hD := hr_
    have hP : va_P D vwCl ((ws ++ (rpH cy u (rgA u i) (tpB u 0) ++ rgS cy u i)) ++ [(a1, .inr (1, [.ref k1, .int 0])), (k1, eInt (cy 0) 6 (fun _ => 0))]) H1 := by rw [← ht]; exact hB_
    have hv : ((ws ++ (rpH cy u (rgA u i) (tpB u 0) ++ rgS cy u i)) ++ [(a1, .inr (1, [.ref k1, .int 0])), (k1, eInt (cy 0) 6 (fun _ => 0))])[(ws ++ (rpH cy u (rgA u i) (tpB u 0) ++ rgS cy u i)).length + 0]? = some (a1, .inr (1, [.ref k1, .int 0])) := gl_ats.trans rfl
    clear hB_ hr_ ht hvm hz1 hk1
    generalize hidx : (ws ++ (rpH cy u (rgA u i) (tpB u 0) ++ rgS cy u i)).length + 0 = ix at hv
    rw [List.append_assoc ws] at hP hD hv
    refine va_astq (D := D) (cl := vwCl) hx hb hE.1 hP hD hS (ws.length + 3) 3 ix 1 (show (ws ++ ((rpH cy u (rgA u i) (tpB u 0) ++ rgS cy u i) ++ [(a1, .inr (1, [.ref k1, .int 0])), (k1, eInt (cy 0) 6 (fun _ => 0))]))[ws.length + 3]? = some (u 3, eRef (cy 3) 8 (rgA u i)) from gl_ats.trans rfl) rfl hv rfl (vn_ins rfl hi (by decide)) dX5_init_124 (fun H locs hP hD hS => ?_)
    rw [nI_clamp (show i < 2 ^ 31 by omega), gl_sets, rp_r] at hP hD
    refine lv_iinc (v := nI (i + 1)) (lv' := [(1, .int (nI (i + 1))), (0, .ref (u 0))]) hx hb dX5_init_125 hl (k := 0) rfl (nI_1 _) (by decide) rfl (fun ls hl => ?_)
    refine lv_goto (tgt := 104) hx hb dX5_init_128 (by decide) ?_
    have hl : lv_has ls 2 [(1, .int (nI (i + 1))), (0, .ref q)] := by rw [← hu0]; exact hl
    exact ih104 _ (i + 1, rgU u i a1 k1) _ _ _ _ _ (by omega) ⟨rfl, ⟨hi, (rgU_lt (by omega)).trans hu0, by show cc9 + 1 + 1 ≤ 12 + 2 * (i + 1); omega, by show ss9 + 2 + 12 ≤ 274 + 14 * (i + 1); omega⟩, ⟨hP, hD⟩, hS, hl⟩
