set_option maxHeartbeats 1000000 in
set_option maxRecDepth 100000 in
theorem kX4_init (l : Launch) {D : va_G} {cy : Nat → Nat} {ws : va_W} {A : Nat → Prop} {q : Nat} (hD : va_D A (ws ++ (q, .inr (3, [.int 0, .int 0, .int 0, .null, .int 0])) :: [])) : Met l yX4_init wsX4_init ({ frames := 2, cells := 17, slots := 104, locals := 40 }) (va_Pc [.ref q] (CW D cy (ws ++ (q, .inr (3, [.int 0, .int 0, .int 0, .null, .int 0])) :: []) A)) (va_Qv (S := Nat → Nat) (fun u => u 0 = q ∧ va_D A (ws ++ tpC cy 8 u)) (fun u t => va_P D vwCl (ws ++ tpC cy 8 u) t.heap) A) 17 104 A := by
  refine Met.ofW (cc := cX4_init) (maxL := 2) (ret := none) (by decide) rfl ?_
  intro p e s m args below meth c s₁ B hml hv
  obtain ⟨rfl, ⟨hP, hE, hA⟩, hO⟩ := hv
  have hx := B.exec
  have hb := B.bytes
  have hr := B.returns
  have hts := atoms_spec (ws := wsX4_init) B.pre
  have hown : s.vm.findClass RX4 = some m.cls := findClass_of_methodNamed B.named
  have hlocks := B.notSynchronized
  have hin : meth.name = "<init>" := (name_of_methodNamed B.named B.method).1
  have hin_RX4 : ∀ w ∈ u_ws RX4 TX4 5, w ∈ wsX4_init := by decide +kernel
  have hS : va_S A s.heap s.heap [] := va_S.rf
  have hl := lv_entry ([.ref q]) (n := 2) (Nat.le_of_ble_eq_true rfl)
  rw [lg_entry_eq]
  generalize (lg_sl ([.ref q]) ++ List.replicate (2 - (lg_sl ([.ref q])).length) Slot.unset).toArray = ls at hl ⊢
  have hl : lv_has ls 2 [(0, .ref q)] := hl
  have hin_RX3 : ∀ w ∈ u_ws RX3 TX3 4, w ∈ wsX4_init := by decide +kernel
  refine lv_aload_n hx hb dX4_init_0 rfl (lv_at hl 0 rfl) ?_
  refine W.objInit hx hb hown (hts (.methodLink RX4 3 objectInit) (by decide +kernel)) (hts (.instanceMethod objectInit) (by decide +kernel)) (hts _ (List.mem_cons_of_mem _ (List.mem_append_left _ (List.mem_of_getElem? (i := 2) rfl)))) rfl (by rw [hml]; exact hl.1) rfl dX4_init_1 (Nat.le_of_ble_eq_true rfl) (Nat.le_of_ble_eq_true rfl) ?_
  refine W.eq (g2 := F0 m 4 ls []) rfl ?_
  refine lv_aload_n hx hb dX4_init_4 rfl (lv_at hl 0 rfl) ?_
  refine lv_iconst (v := 0) hx hb dX4_init_5 (by decide) ?_
  refine va_put (D := D) (ci := 3) (v := .int 0) (ty := .int) (C := RX4) (T := TX4) (N := 5) hx hb hts hin_RX4 tyX4 tyX4_ok nmX4 hown hE.1 hP hD hS ws.length gl_at rfl 0 (by decide) (hts (.fieldLink RX4 9 "RingPetition$Topic" "value" "I") (by decide +kernel)) (fun _ h9 => h9) rfl (by decide +kernel) rfl rfl (Nat.le_of_ble_eq_true rfl) dX4_init_6 (fun H locs hP hD hS => ?_)
  rw [gl_set] at hP hD
  have hP : va_P D vwCl (ws ++ (q, .inr (3, [.int 0, .int 0, .int 0, .null, .int 0])) :: []) H := hP
  have hD : va_D A (ws ++ (q, .inr (3, [.int 0, .int 0, .int 0, .null, .int 0])) :: []) := hD
  refine lv_aload_n hx hb dX4_init_9 rfl (lv_at hl 0 rfl) ?_
  refine lv_iconst (v := nI 4) hx hb dX4_init_10 (by decide) ?_
  refine va_put (D := D) (ci := 3) (v := .int (nI 4)) (ty := .int) (C := RX4) (T := TX4) (N := 5) hx hb hts hin_RX4 tyX4 tyX4_ok nmX4 hown hE.1 hP hD hS ws.length gl_at rfl 1 (by decide) (hts (.fieldLink RX4 15 "RingPetition$Topic" "topicBase" "I") (by decide +kernel)) (fun _ h9 => h9) rfl (by decide +kernel) rfl rfl (Nat.le_of_ble_eq_true rfl) dX4_init_11 (fun H locs hP hD hS => ?_)
  rw [gl_set] at hP hD
  have hP : va_P D vwCl (ws ++ (q, .inr (3, [.int 0, .int (nI 4), .int 0, .null, .int 0])) :: []) H := hP
  have hD : va_D A (ws ++ (q, .inr (3, [.int 0, .int (nI 4), .int 0, .null, .int 0])) :: []) := hD
  refine lv_aload_n hx hb dX4_init_14 rfl (lv_at hl 0 rfl) ?_
  refine lv_iconst (v := 0) hx hb dX4_init_15 (by decide) ?_
  refine va_put (D := D) (ci := 3) (v := .int 0) (ty := .boolean) (C := RX4) (T := TX4) (N := 5) hx hb hts hin_RX4 tyX4 tyX4_ok nmX4 hown hE.1 hP hD hS ws.length gl_at rfl 2 (by decide) (hts (.fieldLink RX4 18 "RingPetition$Topic" "closed" "Z") (by decide +kernel)) (fun _ h9 => h9) rfl (by decide +kernel) rfl rfl (Nat.le_of_ble_eq_true rfl) dX4_init_16 (fun H locs hP hD hS => ?_)
  rw [gl_set] at hP hD
  have hP : va_P D vwCl (ws ++ (q, .inr (3, [.int 0, .int (nI 4), .int 0, .null, .int 0])) :: []) H := hP
  have hD : va_D A (ws ++ (q, .inr (3, [.int 0, .int (nI 4), .int 0, .null, .int 0])) :: []) := hD
  refine lv_aload_n hx hb dX4_init_19 rfl (lv_at hl 0 rfl) ?_
  refine lv_bipush (v := nI 8) hx hb dX4_init_20 (by decide) ?_
  refine wr_newq (N' := 8) (cy := cy) (C := RX3) hx hb hown (hts (.classLink RX4 22 RX3) (by decide +kernel)) hO.2.1 4 rfl hE.1 hP hD hS hA (by decide) (by decide) (by decide) (Nat.le_of_ble_eq_true rfl) (Nat.le_of_ble_eq_true rfl) dX4_init_22 (fun k H hP hD hS => ?_)
  rw [gl_app] at hP hD
  refine va_putF (D := D) (ci := 3) (v := .ref k) (ty := (.array (.object RX3))) (C := RX4) (T := TX4) (N := 5) hx hb hts hin_RX4 tyX4 tyX4_ok nmX4 hown hE.1 hP hD hS ws.length gl_at rfl 3 (by decide) (hts (.fieldLink RX4 24 "RingPetition$Topic" "stored" "[LRingPetition$Signature;") (by decide +kernel)) (fun _ h9 => h9) rfl hin rfl (by decide +kernel) rfl rfl (Nat.le_of_ble_eq_true rfl) dX4_init_25 (fun H locs hP hD hS => ?_)
  rw [gl_set] at hP hD
  have hP : va_P D vwCl (ws ++ (q, .inr (3, [.int 0, .int (nI 4), .int 0, .ref k, .int 0])) :: [(k, eRef (cy 4) 8 (fun _ => none))]) H := hP
  have hD : va_D A (ws ++ (q, .inr (3, [.int 0, .int (nI 4), .int 0, .ref k, .int 0])) :: [(k, eRef (cy 4) 8 (fun _ => none))]) := hD
  refine lv_aload_n hx hb dX4_init_28 rfl (lv_at hl 0 rfl) ?_
  refine lv_iconst (v := 0) hx hb dX4_init_29 (by decide) ?_
  refine va_put (D := D) (ci := 3) (v := .int 0) (ty := .int) (C := RX4) (T := TX4) (N := 5) hx hb hts hin_RX4 tyX4 tyX4_ok nmX4 hown hE.1 hP hD hS ws.length gl_at rfl 4 (by decide) (hts (.fieldLink RX4 28 "RingPetition$Topic" "storedCount" "I") (by decide +kernel)) (fun _ h9 => h9) rfl (by decide +kernel) rfl rfl (Nat.le_of_ble_eq_true rfl) dX4_init_30 (fun H locs hP hD hS => ?_)
  rw [gl_set] at hP hD
  have hP : va_P D vwCl (ws ++ (q, .inr (3, [.int 0, .int (nI 4), .int 0, .ref k, .int 0])) :: [(k, eRef (cy 4) 8 (fun _ => none))]) H := hP
  have hD : va_D A (ws ++ (q, .inr (3, [.int 0, .int (nI 4), .int 0, .ref k, .int 0])) :: [(k, eRef (cy 4) 8 (fun _ => none))]) := hD
  refine lv_iconst (v := nI 0) hx hb dX4_init_33 (by decide) ?_
  refine lv_istore_n (lv' := [(1, .int (nI 0)), (0, .ref q)]) hx hb dX4_init_34 rfl hl (by decide) rfl (fun ls hl => ?_)
  have hP : va_P D vwCl (ws ++ tpC cy 0 (fun j => if j = 0 then q else k)) H := by rw [show tpC cy 0 (fun j => if j = 0 then q else k) = (q, .inr (3, [.int 0, .int (nI 4), .int 0, .ref k, .int 0])) :: [(k, eRef (cy 4) 8 (fun _ => none))] from rfl]; exact hP
  have hD : va_D A (ws ++ tpC cy 0 (fun j => if j = 0 then q else k)) := by rw [show tpC cy 0 (fun j => if j = 0 then q else k) = (q, .inr (3, [.int 0, .int (nI 4), .int 0, .ref k, .int 0])) :: [(k, eRef (cy 4) 8 (fun _ => none))] from rfl]; exact hD
  refine wloopA (fun kq (xq : Nat × (Nat → Nat)) H locs cc9 ss9 ls => kq = 8 - xq.1 ∧ (xq.1 ≤ 8 ∧ xq.2 0 = q ∧ cc9 ≤ 1 + 2 * xq.1 ∧ ss9 ≤ 8 + 12 * xq.1) ∧ (va_P D vwCl (ws ++ tpC cy xq.1 xq.2) H ∧ va_D A (ws ++ tpC cy xq.1 xq.2)) ∧ va_S A s.heap H locs ∧ lv_has ls 2 [(1, .int (nI xq.1)), (0, .ref q)]) (fun kx x35 H locs cc9 ss9 ls h35 ih35 => ?_) _ (0, fun j => if j = 0 then q else k) _ _ _ _ ls ⟨rfl, ⟨Nat.zero_le _, rfl, by omega, by omega⟩, ⟨hP, hD⟩, hS, hl⟩
  obtain ⟨i, u⟩ := x35
  obtain ⟨hkx, hI, ⟨hP, hD⟩, hS, hl⟩ := h35
  have hkx : kx = 8 - i := hkx
  have hI : i ≤ 8 ∧ u 0 = q ∧ cc9 ≤ 1 + 2 * i ∧ ss9 ≤ 8 + 12 * i := hI
  obtain ⟨hi8, hu0, hcc, hss⟩ := hI
  have hP : va_P D vwCl (ws ++ tpC cy i u) H := hP
  have hD : va_D A (ws ++ tpC cy i u) := hD
  have hl : lv_has ls 2 [(1, .int (nI i)), (0, .ref q)] := hl
  refine lv_iload_n hx hb dX4_init_35 rfl (lv_at hl 0 rfl) ?_
  refine lv_bipush (v := nI 8) hx hb dX4_init_36 (by decide) ?_
  refine lv_icmp_ge (tgt := 60) hx hb dX4_init_38 (by decide) (fun c1 => ?_) (fun c1 => ?_)
  · have c1 := (nI_leI (by omega) (by omega)).mp c1
    have he : i = 8 := by omega
    subst he
    refine W.widen (k := 17) (n := 104) (by omega) (by omega) ?_
    exact W.vret hx hb hr (fun t ht hW => ⟨⟨u, rfl, ⟨hu0, hD⟩, (by show va_P D vwCl (ws ++ tpC cy 8 u) t.heap; rw [ht]; exact hP)⟩, hS.F ht⟩) hS.2.2 dX4_init_60
  · have c1 := mt (nI_leI (by omega) (by omega)).mpr c1
    have hi : i < 8 := by omega
    have q1 : cc9 + 1 ≤ 17 := by omega
    have q2 : ss9 + 4 ≤ 104 := by omega
    have q3 : cc9 + 1 + 1 ≤ 17 := by omega
    have q4 : ss9 + 4 + 8 ≤ 104 := by omega
    rw [← hu0] at hl
    refine lv_aload_n hx hb dX4_init_41 rfl (lv_at hl 1 rfl) ?_
    refine va_get (D := D) (ci := 3) (v := .ref (u 1)) (C := RX4) (T := TX4) (N := 5) hx hb hts hin_RX4 hown hE.1 hP (ws.length + 0) (show (ws ++ tpC cy i u)[ws.length + 0]? = some (u 0, .inr (3, [.int 0, .int (nI 4), .int 0, .ref (u 1), .int 0])) from gl_ats.trans rfl) rfl 3 (by decide) (hts (.fieldLink RX4 24 "RingPetition$Topic" "stored" "[LRingPetition$Signature;") (by decide +kernel)) (fun _ h9 => h9) rfl dX4_init_42 ?_
    refine lv_iload_n hx hb dX4_init_45 rfl (lv_at hl 0 rfl) ?_
    refine va_new (ci := 2) (fs := [.null, .int 0, .int 0, .int 0]) (C := RX3) (T := TX3) (N := 4) hx hb hts hin_RX3 tyX3 tyX3_ok hown (hts (.classLink RX4 22 RX3) (by decide +kernel)) (hts (.instantiable RX3 4) (by decide +kernel)) (hts (.initialized RX3) (by decide +kernel)) hE.1 hP hD hS hA rfl (fun j hj => by rcases (show j = 0 ∨ j = 1 ∨ j = 2 ∨ j = 3 by omega) with rfl | rfl | rfl | rfl <;> rfl) q1 q2 dX4_init_46 (fun a1 H hP hD hS => ?_)
    refine lv_dup hx hb dX4_init_49 rfl ?_
    refine va_callv (va_runIN (As := []) (rest := [.ref a1, .int (nI i), .ref (u 1)]) ⟨hx, hb, hml, hown, hts⟩ (kX3_init l (ws := ws ++ tpC cy i u) hD) ⟨va_cnB 0 hts gX4_init_X3_init_n31 rfl rfl rfl (hE.2 _ (List.mem_of_getElem? (i := 14) rfl)) (hts (.initialized RX3) (by decide +kernel)) (by decide +kernel) ⟨Nat.le_of_ble_eq_true rfl, Nat.le_of_ble_eq_true rfl⟩, rfl, hts (.instanceMethod yX3_init) (by decide +kernel)⟩ (rw_ps hE hP hS hA) rfl rfl hl.1 rfl (lv_room (Nat.le_of_ble_eq_true rfl)) dX4_init_50 ⟨q3, q4⟩) hS (fun q _ h => h) (fun q h => h) (fun k1 t H1 locs ht hvm hr_50 hB_50 hz1 hk1 hS => ?_)
    have hD := hr_50
    have hP : va_P D vwCl ((ws ++ tpC cy i u) ++ (a1, .inr (2, [.ref k1, .int (nI 2), .int 0, .int 0])) :: [(k1, eInt (cy 0) 8 (fun _ => 0))]) H1 := by rw [← ht]; exact hB_50
    have hv : ((ws ++ tpC cy i u) ++ (a1, .inr (2, [.ref k1, .int (nI 2), .int 0, .int 0])) :: [(k1, eInt (cy 0) 8 (fun _ => 0))])[(ws ++ tpC cy i u).length + 0]? = some (a1, .inr (2, [.ref k1, .int (nI 2), .int 0, .int 0])) := gl_ats.trans rfl
    clear hB_50 hr_50 ht hvm hz1 hk1
    generalize hidx : (ws ++ tpC cy i u).length + 0 = ix at hv
    rw [List.append_assoc] at hP hD hv
    refine va_astq (D := D) (cl := vwCl) hx hb hE.1 hP hD hS (ws.length + 1) 4 ix 2 (show (ws ++ (tpC cy i u ++ [(a1, .inr (2, [.ref k1, .int (nI 2), .int 0, .int 0])), (k1, eInt (cy 0) 8 (fun _ => 0))]))[ws.length + 1]? = some (u 1, eRef (cy 4) 8 (tpA u i)) from gl_ats.trans rfl) rfl hv rfl (vn_ins rfl hi (by decide)) dX4_init_53 (fun H locs hP hD hS => ?_)
    rw [nI_clamp (show i < 2 ^ 31 by omega), gl_sets, tp_step] at hP hD
    refine lv_iinc (v := nI (i + 1)) (lv' := [(1, .int (nI (i + 1))), (0, .ref (u 0))]) hx hb dX4_init_54 hl (k := 0) rfl (nI_1 _) (by decide) rfl (fun ls hl => ?_)
    refine lv_goto (tgt := 35) hx hb dX4_init_57 (by decide) ?_
    have hl : lv_has ls 2 [(1, .int (nI (i + 1))), (0, .ref q)] := by rw [← hu0]; exact hl
    exact ih35 _ (i + 1, tpU u i a1 k1) _ _ _ _ _ (by omega) ⟨rfl, ⟨hi, (tpU_lt (by omega)).trans hu0, by show cc9 + 1 + 1 ≤ 1 + 2 * (i + 1); omega, by show ss9 + 4 + 8 ≤ 8 + 12 * (i + 1); omega⟩, ⟨hP, hD⟩, hS, hl⟩
